def f_L_law_L23 (L : Nat) (xs : (Nat → Int32)) (rS : Int32) : Nat → Int32 → Int32 → (Nat → Int32) → Int32 → (Nat → Int32) → Int32 → (Nat → Int32) → Int32 → (Nat → Int32) → Int32 → (Nat → Int32) → Int32 → Int32 → Int32 → Int32 → Int32 → (Nat → Int32) → Int32 → (Nat → Int32) → Int32 → (Nat → Int32) → Int32 → (Nat → Int32) → Int32 → (Nat → Int32) → Int32 → Int32 → Int32 → Int32 → (Nat → Int32) → Int32 → (Nat → Int32) → Int32 → (Nat → Int32) → Int32 → Int32 → Int32 → Nat → (Nat → HS) → (Nat → Int64) → (Nat → Int32) → (Nat → Int32) → Int32 → (Nat → Int32) → Int32 → (Nat → Int32) → (Nat → Int32) → (Nat → Int32) → Int32 → Int32 → Int32 → (Nat → Int32) → Int64 →  Option (Int32)
  | 0, _, _, _, _, _, _, _, _, _, _, _, _, _, _, _, _, _, _, _, _, _, _, _, _, _, _, _, _, _, _, _, _, _, _, _, _, _, _, _, _, _, _, _, _, _, _, _, _, _, _, _, _, _ => none
  | k_ + 1, x4, rP, fP, rT, fT, rG, fG, rL, fL, rH, fH, gi, di, re, ti, rPT, fPT, rTT, fTT, rGT, fGT, rLT, fLT, rHT, fHT, giT, diT, reT, tiT, fS, rB, fB, rO, fO, pl, fa, cn, ro, Qh, fo, al, sv, sm, asd, th, ho, fr, txt, tl, pos, od, nu, su =>
    if (Int32.ofNat L) - (6 : Int32) < x4 then
    (some (1 : Int32))
    else
    (ix x4 L (
    nm ((xs x4.toNatClampNeg) &&& (31 : Int32)) (fun v_3 =>
    if v_3 = (0 : Int32) then
    (ix (x4 + (1 : Int32)) L (
    ix (x4 + (2 : Int32)) L (
    bd9 (f_L_addThing (xs (x4 + (1 : Int32)).toNatClampNeg) (xs (x4 + (2 : Int32)).toNatClampNeg) rP fP rT fT rG fG rL fL rH fH gi di re ti cn ro Qh fo) (fun r_7 rT_8 fT_9 rH_10 fH_11 cn_12 ro_13 Qh_14 fo_15 =>
    ix (x4 + (1 : Int32)) L (
    ix (x4 + (2 : Int32)) L (
    bd5 (f_X6_addThing (xs (x4 + (1 : Int32)).toNatClampNeg) (xs (x4 + (2 : Int32)).toNatClampNeg) al sv sm th) (fun r_19 al_20 sv_21 sm_22 th_23 =>
    bd (f_X6_thrown th_23) (fun r_25 =>
    if r_25 = r_7 then
    (if r_7 = (0 : Int32) then
    (ix (0 : Int32) 1 (
    if lg_cmp (fo_15 (0 : Int32).toNatClampNeg) r_19.toInt64 = (0 : Int32) then
    (nm (x4 + (6 : Int32)) (fun v_32 =>
    f_L_law_L23 L xs rS k_ v_32 rP fP rT_8 fT_9 rG fG rL fL rH_10 fH_11 gi di re ti rPT fPT rTT fTT rGT fGT rLT fLT rHT fHT giT diT reT tiT fS rB fB rO fO pl fa cn_12 ro_13 Qh_14 fo_15 al_20 sv_21 sm_22 asd th_23 ho fr txt tl pos od nu su))
    else
    (some (0 : Int32))))
    else
    (nm (x4 + (6 : Int32)) (fun v_29 =>
    f_L_law_L23 L xs rS k_ v_29 rP fP rT_8 fT_9 rG fG rL fL rH_10 fH_11 gi di re ti rPT fPT rTT fTT rGT fGT rLT fLT rHT fHT giT diT reT tiT fS rB fB rO fO pl fa cn_12 ro_13 Qh_14 fo_15 al_20 sv_21 sm_22 asd th_23 ho fr txt tl pos od nu su)))
    else
    (some (0 : Int32))))))))))
    else
    (if v_3 = (1 : Int32) then
    (ix (x4 + (1 : Int32)) L (
    ix (x4 + (2 : Int32)) L (
    bd7 (f_L_setMask (xs (x4 + (1 : Int32)).toNatClampNeg) (xs (x4 + (2 : Int32)).toNatClampNeg) rP fP rT fT rG fG rL fL rH fH gi di re ti cn ro Qh fo) (fun r_36 fT_37 fH_38 cn_39 ro_40 Qh_41 fo_42 =>
    ix (x4 + (1 : Int32)) L (
    ix (x4 + (2 : Int32)) L (
    bd5 (f_X6_setMask (xs (x4 + (1 : Int32)).toNatClampNeg) (xs (x4 + (2 : Int32)).toNatClampNeg) al sv sm th) (fun r_46 al_47 sv_48 sm_49 th_50 =>
    bd (f_X6_thrown th_50) (fun r_52 =>
    if r_52 = r_36 then
    (if r_36 = (0 : Int32) then
    (ix (0 : Int32) 1 (
    if lg_cmp (fo_42 (0 : Int32).toNatClampNeg) r_46.toInt64 = (0 : Int32) then
    (nm (x4 + (6 : Int32)) (fun v_59 =>
    f_L_law_L23 L xs rS k_ v_59 rP fP rT fT_37 rG fG rL fL rH fH_38 gi di re ti rPT fPT rTT fTT rGT fGT rLT fLT rHT fHT giT diT reT tiT fS rB fB rO fO pl fa cn_39 ro_40 Qh_41 fo_42 al_47 sv_48 sm_49 asd th_50 ho fr txt tl pos od nu su))
    else
    (some (0 : Int32))))
    else
    (nm (x4 + (6 : Int32)) (fun v_56 =>
    f_L_law_L23 L xs rS k_ v_56 rP fP rT fT_37 rG fG rL fL rH fH_38 gi di re ti rPT fPT rTT fTT rGT fGT rLT fLT rHT fHT giT diT reT tiT fS rB fB rO fO pl fa cn_39 ro_40 Qh_41 fo_42 al_47 sv_48 sm_49 asd th_50 ho fr txt tl pos od nu su)))
    else
    (some (0 : Int32))))))))))
    else
    (if v_3 = (2 : Int32) then
    (ix (x4 + (1 : Int32)) L (
    ix (x4 + (2 : Int32)) L (
    bd6 (f_L_setBase (xs (x4 + (1 : Int32)).toNatClampNeg) (xs (x4 + (2 : Int32)).toNatClampNeg) rP fP rT fT rG fG rL fL rH fH gi di re ti cn ro Qh fo) (fun r_63 fP_64 cn_65 ro_66 Qh_67 fo_68 =>
    ix (x4 + (1 : Int32)) L (
    ix (x4 + (2 : Int32)) L (
    bd5 (f_X6_setBase (xs (x4 + (1 : Int32)).toNatClampNeg) (xs (x4 + (2 : Int32)).toNatClampNeg) al sv sm th) (fun r_72 al_73 sv_74 sm_75 th_76 =>
    bd (f_X6_thrown th_76) (fun r_78 =>
    if r_78 = r_63 then
    (if r_63 = (0 : Int32) then
    (ix (0 : Int32) 1 (
    if lg_cmp (fo_68 (0 : Int32).toNatClampNeg) r_72.toInt64 = (0 : Int32) then
    (nm (x4 + (6 : Int32)) (fun v_85 =>
    f_L_law_L23 L xs rS k_ v_85 rP fP_64 rT fT rG fG rL fL rH fH gi di re ti rPT fPT rTT fTT rGT fGT rLT fLT rHT fHT giT diT reT tiT fS rB fB rO fO pl fa cn_65 ro_66 Qh_67 fo_68 al_73 sv_74 sm_75 asd th_76 ho fr txt tl pos od nu su))
    else
    (some (0 : Int32))))
    else
    (nm (x4 + (6 : Int32)) (fun v_82 =>
    f_L_law_L23 L xs rS k_ v_82 rP fP_64 rT fT rG fG rL fL rH fH gi di re ti rPT fPT rTT fTT rGT fGT rLT fLT rHT fHT giT diT reT tiT fS rB fB rO fO pl fa cn_65 ro_66 Qh_67 fo_68 al_73 sv_74 sm_75 asd th_76 ho fr txt tl pos od nu su)))
    else
    (some (0 : Int32))))))))))
    else
    (if v_3 = (3 : Int32) then
    (ix (x4 + (1 : Int32)) L (
    ix (x4 + (2 : Int32)) L (
    bd7 (f_L_give (xs (x4 + (1 : Int32)).toNatClampNeg) (xs (x4 + (2 : Int32)).toNatClampNeg) rP fP rT fT rG fG rL fL rH fH gi di re ti cn ro Qh fo) (fun r_89 fT_90 fH_91 cn_92 ro_93 Qh_94 fo_95 =>
    ix (x4 + (1 : Int32)) L (
    ix (x4 + (2 : Int32)) L (
    bd5 (f_X6_give (xs (x4 + (1 : Int32)).toNatClampNeg) (xs (x4 + (2 : Int32)).toNatClampNeg) al sv sm th) (fun r_99 al_100 sv_101 sm_102 th_103 =>
    bd (f_X6_thrown th_103) (fun r_105 =>
    if r_105 = r_89 then
    (if r_89 = (0 : Int32) then
    (ix (0 : Int32) 1 (
    if lg_cmp (fo_95 (0 : Int32).toNatClampNeg) r_99.toInt64 = (0 : Int32) then
    (nm (x4 + (6 : Int32)) (fun v_112 =>
    f_L_law_L23 L xs rS k_ v_112 rP fP rT fT_90 rG fG rL fL rH fH_91 gi di re ti rPT fPT rTT fTT rGT fGT rLT fLT rHT fHT giT diT reT tiT fS rB fB rO fO pl fa cn_92 ro_93 Qh_94 fo_95 al_100 sv_101 sm_102 asd th_103 ho fr txt tl pos od nu su))
    else
    (some (0 : Int32))))
    else
    (nm (x4 + (6 : Int32)) (fun v_109 =>
    f_L_law_L23 L xs rS k_ v_109 rP fP rT fT_90 rG fG rL fL rH fH_91 gi di re ti rPT fPT rTT fTT rGT fGT rLT fLT rHT fHT giT diT reT tiT fS rB fB rO fO pl fa cn_92 ro_93 Qh_94 fo_95 al_100 sv_101 sm_102 asd th_103 ho fr txt tl pos od nu su)))
    else
    (some (0 : Int32))))))))))
    else
    (if v_3 = (4 : Int32) then
    (ix (x4 + (1 : Int32)) L (
    ix (x4 + (2 : Int32)) L (
    ix (x4 + (3 : Int32)) L (
    ix (x4 + (4 : Int32)) L (
    ix (x4 + (5 : Int32)) L (
    bd9 (f_L_grant (xs (x4 + (1 : Int32)).toNatClampNeg) (xs (x4 + (2 : Int32)).toNatClampNeg) (xs (x4 + (3 : Int32)).toNatClampNeg) (xs (x4 + (4 : Int32)).toNatClampNeg) (xs (x4 + (5 : Int32)).toNatClampNeg) rP fP rT fT rG fG rL fL rH fH gi di re ti cn ro Qh fo) (fun r_119 rG_120 fG_121 fH_122 gi_123 cn_124 ro_125 Qh_126 fo_127 =>
    ix (x4 + (1 : Int32)) L (
    ix (x4 + (2 : Int32)) L (
    ix (x4 + (3 : Int32)) L (
    ix (x4 + (4 : Int32)) L (
    ix (x4 + (5 : Int32)) L (
    bd6 (f_X6_grant (xs (x4 + (1 : Int32)).toNatClampNeg) (xs (x4 + (2 : Int32)).toNatClampNeg) (xs (x4 + (3 : Int32)).toNatClampNeg) (xs (x4 + (4 : Int32)).toNatClampNeg) (xs (x4 + (5 : Int32)).toNatClampNeg) al sv sm th ho) (fun r_134 al_135 sv_136 sm_137 th_138 ho_139 =>
    bd (f_X6_thrown th_138) (fun r_141 =>
    if r_141 = r_119 then
    (if r_119 = (0 : Int32) then
    (ix (0 : Int32) 1 (
    if lg_cmp (fo_127 (0 : Int32).toNatClampNeg) r_134.toInt64 = (0 : Int32) then
    (nm (x4 + (6 : Int32)) (fun v_148 =>
    f_L_law_L23 L xs rS k_ v_148 rP fP rT fT rG_120 fG_121 rL fL rH fH_122 gi_123 di re ti rPT fPT rTT fTT rGT fGT rLT fLT rHT fHT giT diT reT tiT fS rB fB rO fO pl fa cn_124 ro_125 Qh_126 fo_127 al_135 sv_136 sm_137 asd th_138 ho_139 fr txt tl pos od nu su))
    else
    (some (0 : Int32))))
    else
    (nm (x4 + (6 : Int32)) (fun v_145 =>
    f_L_law_L23 L xs rS k_ v_145 rP fP rT fT rG_120 fG_121 rL fL rH fH_122 gi_123 di re ti rPT fPT rTT fTT rGT fGT rLT fLT rHT fHT giT diT reT tiT fS rB fB rO fO pl fa cn_124 ro_125 Qh_126 fo_127 al_135 sv_136 sm_137 asd th_138 ho_139 fr txt tl pos od nu su)))
    else
    (some (0 : Int32))))))))))))))))
    else
    (if v_3 = (5 : Int32) then
    (ix (x4 + (1 : Int32)) L (
    bd9 (f_L_revoke (xs (x4 + (1 : Int32)).toNatClampNeg) rP fP rT fT rG fG rL fL rH fH gi di re ti cn ro Qh fo) (fun r_151 rG_152 fG_153 fH_154 re_155 cn_156 ro_157 Qh_158 fo_159 =>
    ix (x4 + (1 : Int32)) L (
    bd6 (f_X6_revoke (xs (x4 + (1 : Int32)).toNatClampNeg) al sv sm th ho) (fun r_162 al_163 sv_164 sm_165 th_166 ho_167 =>
    bd (f_X6_thrown th_166) (fun r_169 =>
    if r_169 = r_151 then
    (if r_151 = (0 : Int32) then
    (ix (0 : Int32) 1 (
    if lg_cmp (fo_159 (0 : Int32).toNatClampNeg) r_162.toInt64 = (0 : Int32) then
    (nm (x4 + (6 : Int32)) (fun v_176 =>
    f_L_law_L23 L xs rS k_ v_176 rP fP rT fT rG_152 fG_153 rL fL rH fH_154 gi di re_155 ti rPT fPT rTT fTT rGT fGT rLT fLT rHT fHT giT diT reT tiT fS rB fB rO fO pl fa cn_156 ro_157 Qh_158 fo_159 al_163 sv_164 sm_165 asd th_166 ho_167 fr txt tl pos od nu su))
    else
    (some (0 : Int32))))
    else
    (nm (x4 + (6 : Int32)) (fun v_173 =>
    f_L_law_L23 L xs rS k_ v_173 rP fP rT fT rG_152 fG_153 rL fL rH fH_154 gi di re_155 ti rPT fPT rTT fTT rGT fGT rLT fLT rHT fHT giT diT reT tiT fS rB fB rO fO pl fa cn_156 ro_157 Qh_158 fo_159 al_163 sv_164 sm_165 asd th_166 ho_167 fr txt tl pos od nu su)))
    else
    (some (0 : Int32))))))))
    else
    (if v_3 = (6 : Int32) then
    (ix (x4 + (1 : Int32)) L (
    ix (x4 + (2 : Int32)) L (
    bd12 (f_L_cheer (xs (x4 + (1 : Int32)).toNatClampNeg) (xs (x4 + (2 : Int32)).toNatClampNeg) rP fP rT fT rG fG rL fL rH fH gi di re ti cn ro Qh fo) (fun r_180 fP_181 rG_182 fG_183 rL_184 fL_185 fH_186 di_187 cn_188 ro_189 Qh_190 fo_191 =>
    ix (x4 + (1 : Int32)) L (
    ix (x4 + (2 : Int32)) L (
    bd5 (f_X6_cheer (xs (x4 + (1 : Int32)).toNatClampNeg) (xs (x4 + (2 : Int32)).toNatClampNeg) al sv sm th) (fun r_195 al_196 sv_197 sm_198 th_199 =>
    bd (f_X6_thrown th_199) (fun r_201 =>
    if r_201 = r_180 then
    (if r_180 = (0 : Int32) then
    (ix (0 : Int32) 1 (
    if lg_cmp (fo_191 (0 : Int32).toNatClampNeg) r_195.toInt64 = (0 : Int32) then
    (nm (x4 + (6 : Int32)) (fun v_208 =>
    f_L_law_L23 L xs rS k_ v_208 rP fP_181 rT fT rG_182 fG_183 rL_184 fL_185 rH fH_186 gi di_187 re ti rPT fPT rTT fTT rGT fGT rLT fLT rHT fHT giT diT reT tiT fS rB fB rO fO pl fa cn_188 ro_189 Qh_190 fo_191 al_196 sv_197 sm_198 asd th_199 ho fr txt tl pos od nu su))
    else
    (some (0 : Int32))))
    else
    (nm (x4 + (6 : Int32)) (fun v_205 =>
    f_L_law_L23 L xs rS k_ v_205 rP fP_181 rT fT rG_182 fG_183 rL_184 fL_185 rH fH_186 gi di_187 re ti rPT fPT rTT fTT rGT fGT rLT fLT rHT fHT giT diT reT tiT fS rB fB rO fO pl fa cn_188 ro_189 Qh_190 fo_191 al_196 sv_197 sm_198 asd th_199 ho fr txt tl pos od nu su)))
    else
    (some (0 : Int32))))))))))
    else
    (if v_3 = (7 : Int32) then
    (ix (x4 + (1 : Int32)) L (
    bd13 (f_L_pass (xs (x4 + (1 : Int32)).toNatClampNeg) rP fP rT fT rG fG rL fL rH fH gi di re ti cn ro Qh fo) (fun r_211 fP_212 rG_213 fG_214 rL_215 fL_216 fH_217 di_218 ti_219 cn_220 ro_221 Qh_222 fo_223 =>
    ix (x4 + (1 : Int32)) L (
    bd5 (f_X6_pass (xs (x4 + (1 : Int32)).toNatClampNeg) al sv sm th) (fun r_226 al_227 sv_228 sm_229 th_230 =>
    bd (f_X6_thrown th_230) (fun r_232 =>
    if r_232 = r_211 then
    (if r_211 = (0 : Int32) then
    (ix (0 : Int32) 1 (
    if lg_cmp (fo_223 (0 : Int32).toNatClampNeg) r_226.toInt64 = (0 : Int32) then
    (nm (x4 + (6 : Int32)) (fun v_239 =>
    f_L_law_L23 L xs rS k_ v_239 rP fP_212 rT fT rG_213 fG_214 rL_215 fL_216 rH fH_217 gi di_218 re ti_219 rPT fPT rTT fTT rGT fGT rLT fLT rHT fHT giT diT reT tiT fS rB fB rO fO pl fa cn_220 ro_221 Qh_222 fo_223 al_227 sv_228 sm_229 asd th_230 ho fr txt tl pos od nu su))
    else
    (some (0 : Int32))))
    else
    (nm (x4 + (6 : Int32)) (fun v_236 =>
    f_L_law_L23 L xs rS k_ v_236 rP fP_212 rT fT rG_213 fG_214 rL_215 fL_216 rH fH_217 gi di_218 re ti_219 rPT fPT rTT fTT rGT fGT rLT fLT rHT fHT giT diT reT tiT fS rB fB rO fO pl fa cn_220 ro_221 Qh_222 fo_223 al_227 sv_228 sm_229 asd th_230 ho fr txt tl pos od nu su)))
    else
    (some (0 : Int32))))))))
    else
    (if v_3 = (8 : Int32) then
    (ix (x4 + (1 : Int32)) L (
    ix (x4 + (2 : Int32)) L (
    bd2 (f_L_held (xs (x4 + (1 : Int32)).toNatClampNeg) (xs (x4 + (2 : Int32)).toNatClampNeg) rT rH fH fo) (fun r_243 fo_244 =>
    ix (x4 + (1 : Int32)) L (
    ix (x4 + (2 : Int32)) L (
    bd3 (f_X6_held (xs (x4 + (1 : Int32)).toNatClampNeg) (xs (x4 + (2 : Int32)).toNatClampNeg) al th ho) (fun r_248 th_249 ho_250 =>
    bd (f_X6_thrown th_249) (fun r_252 =>
    if r_252 = r_243 then
    (if r_243 = (0 : Int32) then
    (ix (0 : Int32) 1 (
    if lg_cmp (fo_244 (0 : Int32).toNatClampNeg) r_248.toInt64 = (0 : Int32) then
    (nm (x4 + (6 : Int32)) (fun v_259 =>
    f_L_law_L23 L xs rS k_ v_259 rP fP rT fT rG fG rL fL rH fH gi di re ti rPT fPT rTT fTT rGT fGT rLT fLT rHT fHT giT diT reT tiT fS rB fB rO fO pl fa cn ro Qh fo_244 al sv sm asd th_249 ho_250 fr txt tl pos od nu su))
    else
    (some (0 : Int32))))
    else
    (nm (x4 + (6 : Int32)) (fun v_256 =>
    f_L_law_L23 L xs rS k_ v_256 rP fP rT fT rG fG rL fL rH fH gi di re ti rPT fPT rTT fTT rGT fGT rLT fLT rHT fHT giT diT reT tiT fS rB fB rO fO pl fa cn ro Qh fo_244 al sv sm asd th_249 ho_250 fr txt tl pos od nu su)))
    else
    (some (0 : Int32))))))))))
    else
    (if v_3 = (9 : Int32) then
    (ix (x4 + (1 : Int32)) L (
    ix (x4 + (2 : Int32)) L (
    bd2 (f_L_person (xs (x4 + (1 : Int32)).toNatClampNeg) (xs (x4 + (2 : Int32)).toNatClampNeg) rP fP rT fT rG fG rH fH fo) (fun r_263 fo_264 =>
    ix (x4 + (1 : Int32)) L (
    ix (x4 + (2 : Int32)) L (
    bd3 (f_X6_person (xs (x4 + (1 : Int32)).toNatClampNeg) (xs (x4 + (2 : Int32)).toNatClampNeg) al th ho) (fun r_268 th_269 ho_270 =>
    bd (f_X6_thrown th_269) (fun r_272 =>
    if r_272 = r_263 then
    (if r_263 = (0 : Int32) then
    (ix (0 : Int32) 1 (
    if lg_cmp (fo_264 (0 : Int32).toNatClampNeg) r_268.toInt64 = (0 : Int32) then
    (nm (x4 + (6 : Int32)) (fun v_279 =>
    f_L_law_L23 L xs rS k_ v_279 rP fP rT fT rG fG rL fL rH fH gi di re ti rPT fPT rTT fTT rGT fGT rLT fLT rHT fHT giT diT reT tiT fS rB fB rO fO pl fa cn ro Qh fo_264 al sv sm asd th_269 ho_270 fr txt tl pos od nu su))
    else
    (some (0 : Int32))))
    else
    (nm (x4 + (6 : Int32)) (fun v_276 =>
    f_L_law_L23 L xs rS k_ v_276 rP fP rT fT rG fG rL fL rH fH gi di re ti rPT fPT rTT fTT rGT fGT rLT fLT rHT fHT giT diT reT tiT fS rB fB rO fO pl fa cn ro Qh fo_264 al sv sm asd th_269 ho_270 fr txt tl pos od nu su)))
    else
    (some (0 : Int32))))))))))
    else
    (if v_3 = (10 : Int32) then
    (ix (x4 + (1 : Int32)) L (
    ix (x4 + (2 : Int32)) L (
    bd2 (f_L_thing (xs (x4 + (1 : Int32)).toNatClampNeg) (xs (x4 + (2 : Int32)).toNatClampNeg) rT fT rG fG rH fH fo) (fun r_283 fo_284 =>
    ix (x4 + (1 : Int32)) L (
    ix (x4 + (2 : Int32)) L (
    bd3 (f_X6_thing (xs (x4 + (1 : Int32)).toNatClampNeg) (xs (x4 + (2 : Int32)).toNatClampNeg) al th ho) (fun r_288 th_289 ho_290 =>
    bd (f_X6_thrown th_289) (fun r_292 =>
    if r_292 = r_283 then
    (if r_283 = (0 : Int32) then
    (ix (0 : Int32) 1 (
    if lg_cmp (fo_284 (0 : Int32).toNatClampNeg) r_288.toInt64 = (0 : Int32) then
    (nm (x4 + (6 : Int32)) (fun v_299 =>
    f_L_law_L23 L xs rS k_ v_299 rP fP rT fT rG fG rL fL rH fH gi di re ti rPT fPT rTT fTT rGT fGT rLT fLT rHT fHT giT diT reT tiT fS rB fB rO fO pl fa cn ro Qh fo_284 al sv sm asd th_289 ho_290 fr txt tl pos od nu su))
    else
    (some (0 : Int32))))
    else
    (nm (x4 + (6 : Int32)) (fun v_296 =>
    f_L_law_L23 L xs rS k_ v_296 rP fP rT fT rG fG rL fL rH fH gi di re ti rPT fPT rTT fTT rGT fGT rLT fLT rHT fHT giT diT reT tiT fS rB fB rO fO pl fa cn ro Qh fo_284 al sv sm asd th_289 ho_290 fr txt tl pos od nu su)))
    else
    (some (0 : Int32))))))))))
    else
    (if v_3 = (11 : Int32) then
    (ix (x4 + (1 : Int32)) L (
    ix (x4 + (2 : Int32)) L (
    bd2 (f_L_grantOf (xs (x4 + (1 : Int32)).toNatClampNeg) (xs (x4 + (2 : Int32)).toNatClampNeg) rT fT rG fG rH fH fo) (fun r_303 fo_304 =>
    ix (x4 + (1 : Int32)) L (
    ix (x4 + (2 : Int32)) L (
    bd3 (f_X6_grantOf (xs (x4 + (1 : Int32)).toNatClampNeg) (xs (x4 + (2 : Int32)).toNatClampNeg) al th ho) (fun r_308 th_309 ho_310 =>
    bd (f_X6_thrown th_309) (fun r_312 =>
    if r_312 = r_303 then
    (if r_303 = (0 : Int32) then
    (ix (0 : Int32) 1 (
    if lg_cmp (fo_304 (0 : Int32).toNatClampNeg) r_308.toInt64 = (0 : Int32) then
    (nm (x4 + (6 : Int32)) (fun v_319 =>
    f_L_law_L23 L xs rS k_ v_319 rP fP rT fT rG fG rL fL rH fH gi di re ti rPT fPT rTT fTT rGT fGT rLT fLT rHT fHT giT diT reT tiT fS rB fB rO fO pl fa cn ro Qh fo_304 al sv sm asd th_309 ho_310 fr txt tl pos od nu su))
    else
    (some (0 : Int32))))
    else
    (nm (x4 + (6 : Int32)) (fun v_316 =>
    f_L_law_L23 L xs rS k_ v_316 rP fP rT fT rG fG rL fL rH fH gi di re ti rPT fPT rTT fTT rGT fGT rLT fLT rHT fHT giT diT reT tiT fS rB fB rO fO pl fa cn ro Qh fo_304 al sv sm asd th_309 ho_310 fr txt tl pos od nu su)))
    else
    (some (0 : Int32))))))))))
    else
    (if v_3 = (12 : Int32) then
    (ix (x4 + (1 : Int32)) L (
    ix (x4 + (2 : Int32)) L (
    bd3 (f_L_chain (xs (x4 + (1 : Int32)).toNatClampNeg) (xs (x4 + (2 : Int32)).toNatClampNeg) rT fT rG fG rH fH rS fS fo) (fun r_323 fS_324 fo_325 =>
    ix (x4 + (1 : Int32)) L (
    ix (x4 + (2 : Int32)) L (
    bd4 (f_X6_chain (xs (x4 + (1 : Int32)).toNatClampNeg) (xs (x4 + (2 : Int32)).toNatClampNeg) al th ho fr) (fun r_329 th_330 ho_331 fr_332 =>
    bd (f_X6_thrown th_330) (fun r_334 =>
    if r_334 = r_323 then
    (if r_323 = (0 : Int32) then
    (ix (0 : Int32) 1 (
    if lg_cmp (fo_325 (0 : Int32).toNatClampNeg) r_329.toInt64 = (0 : Int32) then
    (nm (x4 + (6 : Int32)) (fun v_341 =>
    f_L_law_L23 L xs rS k_ v_341 rP fP rT fT rG fG rL fL rH fH gi di re ti rPT fPT rTT fTT rGT fGT rLT fLT rHT fHT giT diT reT tiT fS_324 rB fB rO fO pl fa cn ro Qh fo_325 al sv sm asd th_330 ho_331 fr_332 txt tl pos od nu su))
    else
    (some (0 : Int32))))
    else
    (nm (x4 + (6 : Int32)) (fun v_338 =>
    f_L_law_L23 L xs rS k_ v_338 rP fP rT fT rG fG rL fL rH fH gi di re ti rPT fPT rTT fTT rGT fGT rLT fLT rHT fHT giT diT reT tiT fS_324 rB fB rO fO pl fa cn ro Qh fo_325 al sv sm asd th_330 ho_331 fr_332 txt tl pos od nu su)))
    else
    (some (0 : Int32))))))))))
    else
    (if v_3 = (13 : Int32) then
    (ix (x4 + (1 : Int32)) L (
    ix (x4 + (2 : Int32)) L (
    ix (x4 + (3 : Int32)) L (
    bd3 (f_L_link (xs (x4 + (1 : Int32)).toNatClampNeg) (xs (x4 + (2 : Int32)).toNatClampNeg) (xs (x4 + (3 : Int32)).toNatClampNeg) rT fT rG fG rH fH rS fS fo) (fun r_346 fS_347 fo_348 =>
    ix (x4 + (1 : Int32)) L (
    ix (x4 + (2 : Int32)) L (
    ix (x4 + (3 : Int32)) L (
    bd4 (f_X6_link (xs (x4 + (1 : Int32)).toNatClampNeg) (xs (x4 + (2 : Int32)).toNatClampNeg) (xs (x4 + (3 : Int32)).toNatClampNeg) al th ho fr) (fun r_353 th_354 ho_355 fr_356 =>
    bd (f_X6_thrown th_354) (fun r_358 =>
    if r_358 = r_346 then
    (if r_346 = (0 : Int32) then
    (ix (0 : Int32) 1 (
    if lg_cmp (fo_348 (0 : Int32).toNatClampNeg) r_353.toInt64 = (0 : Int32) then
    (nm (x4 + (6 : Int32)) (fun v_365 =>
    f_L_law_L23 L xs rS k_ v_365 rP fP rT fT rG fG rL fL rH fH gi di re ti rPT fPT rTT fTT rGT fGT rLT fLT rHT fHT giT diT reT tiT fS_347 rB fB rO fO pl fa cn ro Qh fo_348 al sv sm asd th_354 ho_355 fr_356 txt tl pos od nu su))
    else
    (some (0 : Int32))))
    else
    (nm (x4 + (6 : Int32)) (fun v_362 =>
    f_L_law_L23 L xs rS k_ v_362 rP fP rT fT rG fG rL fL rH fH gi di re ti rPT fPT rTT fTT rGT fGT rLT fLT rHT fHT giT diT reT tiT fS_347 rB fB rO fO pl fa cn ro Qh fo_348 al sv sm asd th_354 ho_355 fr_356 txt tl pos od nu su)))
    else
    (some (0 : Int32))))))))))))
    else
    (if v_3 = (14 : Int32) then
    (ix (x4 + (1 : Int32)) L (
    ix (x4 + (2 : Int32)) L (
    ix (x4 + (3 : Int32)) L (
    bd2 (f_L_why (xs (x4 + (1 : Int32)).toNatClampNeg) (xs (x4 + (2 : Int32)).toNatClampNeg) (xs (x4 + (3 : Int32)).toNatClampNeg) rT fT rG fG rH fH fo) (fun r_370 fo_371 =>
    ix (x4 + (1 : Int32)) L (
    ix (x4 + (2 : Int32)) L (
    ix (x4 + (3 : Int32)) L (
    bd3 (f_X6_why (xs (x4 + (1 : Int32)).toNatClampNeg) (xs (x4 + (2 : Int32)).toNatClampNeg) (xs (x4 + (3 : Int32)).toNatClampNeg) al th ho) (fun r_376 th_377 ho_378 =>
    bd (f_X6_thrown th_377) (fun r_380 =>
    if r_380 = r_370 then
    (if r_370 = (0 : Int32) then
    (ix (0 : Int32) 1 (
    if lg_cmp (fo_371 (0 : Int32).toNatClampNeg) r_376.toInt64 = (0 : Int32) then
    (nm (x4 + (6 : Int32)) (fun v_387 =>
    f_L_law_L23 L xs rS k_ v_387 rP fP rT fT rG fG rL fL rH fH gi di re ti rPT fPT rTT fTT rGT fGT rLT fLT rHT fHT giT diT reT tiT fS rB fB rO fO pl fa cn ro Qh fo_371 al sv sm asd th_377 ho_378 fr txt tl pos od nu su))
    else
    (some (0 : Int32))))
    else
    (nm (x4 + (6 : Int32)) (fun v_384 =>
    f_L_law_L23 L xs rS k_ v_384 rP fP rT fT rG fG rL fL rH fH gi di re ti rPT fPT rTT fTT rGT fGT rLT fLT rHT fHT giT diT reT tiT fS rB fB rO fO pl fa cn ro Qh fo_371 al sv sm asd th_377 ho_378 fr txt tl pos od nu su)))
    else
    (some (0 : Int32))))))))))))
    else
    (if v_3 = (15 : Int32) then
    (ix (x4 + (1 : Int32)) L (
    bd2 (f_L_value (xs (x4 + (1 : Int32)).toNatClampNeg) rT fT rG fG rL rH fH gi di re ti fo) (fun r_390 fo_391 =>
    ix (x4 + (1 : Int32)) L (
    bd3 (f_X6_value (xs (x4 + (1 : Int32)).toNatClampNeg) al th ho) (fun r_394 th_395 ho_396 =>
    bd (f_X6_thrown th_395) (fun r_398 =>
    if r_398 = r_390 then
    (if r_390 = (0 : Int32) then
    (ix (0 : Int32) 1 (
    if lg_cmp (fo_391 (0 : Int32).toNatClampNeg) r_394.toInt64 = (0 : Int32) then
    (nm (x4 + (6 : Int32)) (fun v_405 =>
    f_L_law_L23 L xs rS k_ v_405 rP fP rT fT rG fG rL fL rH fH gi di re ti rPT fPT rTT fTT rGT fGT rLT fLT rHT fHT giT diT reT tiT fS rB fB rO fO pl fa cn ro Qh fo_391 al sv sm asd th_395 ho_396 fr txt tl pos od nu su))
    else
    (some (0 : Int32))))
    else
    (nm (x4 + (6 : Int32)) (fun v_402 =>
    f_L_law_L23 L xs rS k_ v_402 rP fP rT fT rG fG rL fL rH fH gi di re ti rPT fPT rTT fTT rGT fGT rLT fLT rHT fHT giT diT reT tiT fS rB fB rO fO pl fa cn ro Qh fo_391 al sv sm asd th_395 ho_396 fr txt tl pos od nu su)))
    else
    (some (0 : Int32))))))))
    else
    (if v_3 = (16 : Int32) then
    (ix (x4 + (1 : Int32)) L (
    ix (x4 + (2 : Int32)) L (
    bd2 (f_L_entry (xs (x4 + (1 : Int32)).toNatClampNeg) (xs (x4 + (2 : Int32)).toNatClampNeg) rL fL fo) (fun r_409 fo_410 =>
    ix (x4 + (1 : Int32)) L (
    ix (x4 + (2 : Int32)) L (
    bd2 (f_X6_entry (xs (x4 + (1 : Int32)).toNatClampNeg) (xs (x4 + (2 : Int32)).toNatClampNeg) al th) (fun r_414 th_415 =>
    bd (f_X6_thrown th_415) (fun r_417 =>
    if r_417 = r_409 then
    (if r_409 = (0 : Int32) then
    (ix (0 : Int32) 1 (
    if lg_cmp (fo_410 (0 : Int32).toNatClampNeg) r_414.toInt64 = (0 : Int32) then
    (nm (x4 + (6 : Int32)) (fun v_424 =>
    f_L_law_L23 L xs rS k_ v_424 rP fP rT fT rG fG rL fL rH fH gi di re ti rPT fPT rTT fTT rGT fGT rLT fLT rHT fHT giT diT reT tiT fS rB fB rO fO pl fa cn ro Qh fo_410 al sv sm asd th_415 ho fr txt tl pos od nu su))
    else
    (some (0 : Int32))))
    else
    (nm (x4 + (6 : Int32)) (fun v_421 =>
    f_L_law_L23 L xs rS k_ v_421 rP fP rT fT rG fG rL fL rH fH gi di re ti rPT fPT rTT fTT rGT fGT rLT fLT rHT fHT giT diT reT tiT fS rB fB rO fO pl fa cn ro Qh fo_410 al sv sm asd th_415 ho fr txt tl pos od nu su)))
    else
    (some (0 : Int32))))))))))
    else
    (if v_3 = (17 : Int32) then
    (ix (x4 + (1 : Int32)) L (
    bd16 (f_L_lostBy (xs (x4 + (1 : Int32)).toNatClampNeg) rP fP rT fT rG fG rL fL rH fH gi di re ti rPT fPT rTT fTT rGT fGT rLT fLT rHT fHT giT diT reT tiT fo) (fun r_427 rPT_428 fPT_429 rTT_430 fTT_431 rGT_432 fGT_433 rLT_434 fLT_435 rHT_436 fHT_437 giT_438 diT_439 reT_440 tiT_441 fo_442 =>
    ix (x4 + (1 : Int32)) L (
    bd5 (f_X6_lostBy (xs (x4 + (1 : Int32)).toNatClampNeg) al asd th ho) (fun r_445 al_446 asd_447 th_448 ho_449 =>
    bd (f_X6_thrown th_448) (fun r_451 =>
    if r_451 = r_427 then
    (if r_427 = (0 : Int32) then
    (ix (0 : Int32) 1 (
    if lg_cmp (fo_442 (0 : Int32).toNatClampNeg) r_445.toInt64 = (0 : Int32) then
    (nm (x4 + (6 : Int32)) (fun v_458 =>
    f_L_law_L23 L xs rS k_ v_458 rP fP rT fT rG fG rL fL rH fH gi di re ti rPT_428 fPT_429 rTT_430 fTT_431 rGT_432 fGT_433 rLT_434 fLT_435 rHT_436 fHT_437 giT_438 diT_439 reT_440 tiT_441 fS rB fB rO fO pl fa cn ro Qh fo_442 al_446 sv sm asd_447 th_448 ho_449 fr txt tl pos od nu su))
    else
    (some (0 : Int32))))
    else
    (nm (x4 + (6 : Int32)) (fun v_455 =>
    f_L_law_L23 L xs rS k_ v_455 rP fP rT fT rG fG rL fL rH fH gi di re ti rPT_428 fPT_429 rTT_430 fTT_431 rGT_432 fGT_433 rLT_434 fLT_435 rHT_436 fHT_437 giT_438 diT_439 reT_440 tiT_441 fS rB fB rO fO pl fa cn ro Qh fo_442 al_446 sv sm asd_447 th_448 ho_449 fr txt tl pos od nu su)))
    else
    (some (0 : Int32))))))))
    else
    (if v_3 = (18 : Int32) then
    (bd15 (f_X5_mostNeeded rP fP rT fT rG fG rL fL rH fH gi di re ti rPT fPT rTT fTT rGT fGT rLT fLT rHT fHT giT diT reT tiT) (fun r_460 rPT_461 fPT_462 rTT_463 fTT_464 rGT_465 fGT_466 rLT_467 fLT_468 rHT_469 fHT_470 giT_471 diT_472 reT_473 tiT_474 =>
    bd5 (f_X6_mostNeeded al asd th ho) (fun r_476 al_477 asd_478 th_479 ho_480 =>
    if r_460 = r_476 then
    (nm (x4 + (6 : Int32)) (fun v_483 =>
    f_L_law_L23 L xs rS k_ v_483 rP fP rT fT rG fG rL fL rH fH gi di re ti rPT_461 fPT_462 rTT_463 fTT_464 rGT_465 fGT_466 rLT_467 fLT_468 rHT_469 fHT_470 giT_471 diT_472 reT_473 tiT_474 fS rB fB rO fO pl fa cn ro Qh fo al_477 sv sm asd_478 th_479 ho_480 fr txt tl pos od nu su))
    else
    (some (0 : Int32)))))
    else
    (if v_3 = (19 : Int32) then
    (ix (x4 + (1 : Int32)) L (
    bd16 (f_L_seenIn (xs (x4 + (1 : Int32)).toNatClampNeg) rP fP rT fT rG fG rL fL rH fH gi di re ti rPT fPT rTT fTT rGT fGT rLT fLT rHT fHT giT diT reT tiT fo) (fun r_486 rPT_487 fPT_488 rTT_489 fTT_490 rGT_491 fGT_492 rLT_493 fLT_494 rHT_495 fHT_496 giT_497 diT_498 reT_499 tiT_500 fo_501 =>
    ix (x4 + (1 : Int32)) L (
    bd5 (f_X6_seenIn (xs (x4 + (1 : Int32)).toNatClampNeg) al asd th ho) (fun r_504 al_505 asd_506 th_507 ho_508 =>
    bd (f_X6_thrown th_507) (fun r_510 =>
    if r_510 = r_486 then
    (if r_486 = (0 : Int32) then
    (ix (0 : Int32) 1 (
    if lg_cmp (fo_501 (0 : Int32).toNatClampNeg) r_504.toInt64 = (0 : Int32) then
    (nm (x4 + (6 : Int32)) (fun v_517 =>
    f_L_law_L23 L xs rS k_ v_517 rP fP rT fT rG fG rL fL rH fH gi di re ti rPT_487 fPT_488 rTT_489 fTT_490 rGT_491 fGT_492 rLT_493 fLT_494 rHT_495 fHT_496 giT_497 diT_498 reT_499 tiT_500 fS rB fB rO fO pl fa cn ro Qh fo_501 al_505 sv sm asd_506 th_507 ho_508 fr txt tl pos od nu su))
    else
    (some (0 : Int32))))
    else
    (nm (x4 + (6 : Int32)) (fun v_514 =>
    f_L_law_L23 L xs rS k_ v_514 rP fP rT fT rG fG rL fL rH fH gi di re ti rPT_487 fPT_488 rTT_489 fTT_490 rGT_491 fGT_492 rLT_493 fLT_494 rHT_495 fHT_496 giT_497 diT_498 reT_499 tiT_500 fS rB fB rO fO pl fa cn ro Qh fo_501 al_505 sv sm asd_506 th_507 ho_508 fr txt tl pos od nu su)))
    else
    (some (0 : Int32))))))))
    else
    (if v_3 = (20 : Int32) then
    (ix (x4 + (1 : Int32)) L (
    ix (x4 + (2 : Int32)) L (
    ix (x4 + (3 : Int32)) L (
    ix (x4 + (4 : Int32)) L (
    ix (x4 + (5 : Int32)) L (
    bd16 (f_L_gainBy (xs (x4 + (1 : Int32)).toNatClampNeg) (xs (x4 + (2 : Int32)).toNatClampNeg) (xs (x4 + (3 : Int32)).toNatClampNeg) (xs (x4 + (4 : Int32)).toNatClampNeg) (xs (x4 + (5 : Int32)).toNatClampNeg) rP fP rT fT rG fG rL fL rH fH gi di re ti rPT fPT rTT fTT rGT fGT rLT fLT rHT fHT giT diT reT tiT fo) (fun r_524 rPT_525 fPT_526 rTT_527 fTT_528 rGT_529 fGT_530 rLT_531 fLT_532 rHT_533 fHT_534 giT_535 diT_536 reT_537 tiT_538 fo_539 =>
    ix (x4 + (1 : Int32)) L (
    ix (x4 + (2 : Int32)) L (
    ix (x4 + (3 : Int32)) L (
    ix (x4 + (4 : Int32)) L (
    ix (x4 + (5 : Int32)) L (
    bd5 (f_X6_gainBy (xs (x4 + (1 : Int32)).toNatClampNeg) (xs (x4 + (2 : Int32)).toNatClampNeg) (xs (x4 + (3 : Int32)).toNatClampNeg) (xs (x4 + (4 : Int32)).toNatClampNeg) (xs (x4 + (5 : Int32)).toNatClampNeg) al asd th ho) (fun r_546 al_547 asd_548 th_549 ho_550 =>
    bd (f_X6_thrown th_549) (fun r_552 =>
    if r_552 = r_524 then
    (if r_524 = (0 : Int32) then
    (ix (0 : Int32) 1 (
    if lg_cmp (fo_539 (0 : Int32).toNatClampNeg) r_546.toInt64 = (0 : Int32) then
    (nm (x4 + (6 : Int32)) (fun v_559 =>
    f_L_law_L23 L xs rS k_ v_559 rP fP rT fT rG fG rL fL rH fH gi di re ti rPT_525 fPT_526 rTT_527 fTT_528 rGT_529 fGT_530 rLT_531 fLT_532 rHT_533 fHT_534 giT_535 diT_536 reT_537 tiT_538 fS rB fB rO fO pl fa cn ro Qh fo_539 al_547 sv sm asd_548 th_549 ho_550 fr txt tl pos od nu su))
    else
    (some (0 : Int32))))
    else
    (nm (x4 + (6 : Int32)) (fun v_556 =>
    f_L_law_L23 L xs rS k_ v_556 rP fP rT fT rG fG rL fL rH fH gi di re ti rPT_525 fPT_526 rTT_527 fTT_528 rGT_529 fGT_530 rLT_531 fLT_532 rHT_533 fHT_534 giT_535 diT_536 reT_537 tiT_538 fS rB fB rO fO pl fa cn ro Qh fo_539 al_547 sv sm asd_548 th_549 ho_550 fr txt tl pos od nu su)))
    else
    (some (0 : Int32))))))))))))))))
    else
    (if v_3 = (21 : Int32) then
    (ix (x4 + (1 : Int32)) L (
    bd2 (f_L_patience (xs (x4 + (1 : Int32)).toNatClampNeg) rP fP rG fG fo) (fun r_562 fo_563 =>
    ix (x4 + (1 : Int32)) L (
    bd2 (f_X6_patience (xs (x4 + (1 : Int32)).toNatClampNeg) al th) (fun r_566 th_567 =>
    bd (f_X6_thrown th_567) (fun r_569 =>
    if r_569 = r_562 then
    (if r_562 = (0 : Int32) then
    (ix (0 : Int32) 1 (
    if lg_cmp (fo_563 (0 : Int32).toNatClampNeg) r_566.toInt64 = (0 : Int32) then
    (nm (x4 + (6 : Int32)) (fun v_576 =>
    f_L_law_L23 L xs rS k_ v_576 rP fP rT fT rG fG rL fL rH fH gi di re ti rPT fPT rTT fTT rGT fGT rLT fLT rHT fHT giT diT reT tiT fS rB fB rO fO pl fa cn ro Qh fo_563 al sv sm asd th_567 ho fr txt tl pos od nu su))
    else
    (some (0 : Int32))))
    else
    (nm (x4 + (6 : Int32)) (fun v_573 =>
    f_L_law_L23 L xs rS k_ v_573 rP fP rT fT rG fG rL fL rH fH gi di re ti rPT fPT rTT fTT rGT fGT rLT fLT rHT fHT giT diT reT tiT fS rB fB rO fO pl fa cn ro Qh fo_563 al sv sm asd th_567 ho fr txt tl pos od nu su)))
    else
    (some (0 : Int32))))))))
    else
    (if v_3 = (22 : Int32) then
    (bd2 (f_X5_meanChain rT fT rG fG rH fH rS fS) (fun r_578 fS_579 =>
    bd4 (f_X6_meanChain al th ho fr) (fun r_581 th_582 ho_583 fr_584 =>
    if Op.cmpValue (FP.dcmp r_578 r_581) .l = (0 : Int32) then
    (nm (x4 + (6 : Int32)) (fun v_587 =>
    f_L_law_L23 L xs rS k_ v_587 rP fP rT fT rG fG rL fL rH fH gi di re ti rPT fPT rTT fTT rGT fGT rLT fLT rHT fHT giT diT reT tiT fS_579 rB fB rO fO pl fa cn ro Qh fo al sv sm asd th_582 ho_583 fr_584 txt tl pos od nu su))
    else
    (if Op.cmpValue (FP.dcmp r_578 r_578) .l = (0 : Int32) then
    (some (0 : Int32))
    else
    (if Op.cmpValue (FP.dcmp r_581 r_581) .l = (0 : Int32) then
    (some (0 : Int32))
    else
    (nm (x4 + (6 : Int32)) (fun v_590 =>
    f_L_law_L23 L xs rS k_ v_590 rP fP rT fT rG fG rL fL rH fH gi di re ti rPT fPT rTT fTT rGT fGT rLT fLT rHT fHT giT diT reT tiT fS_579 rB fB rO fO pl fa cn ro Qh fo al sv sm asd th_582 ho_583 fr_584 txt tl pos od nu su)))))))
    else
    (if v_3 = (23 : Int32) then
    (ix (x4 + (1 : Int32)) L (
    bd4 (f_L_append (xs (x4 + (1 : Int32)).toNatClampNeg) rB fB fo) (fun r_593 rB_594 fB_595 fo_596 =>
    ix (x4 + (1 : Int32)) L (
    bd4 (f_X6_append (xs (x4 + (1 : Int32)).toNatClampNeg) th txt tl) (fun r_599 th_600 txt_601 tl_602 =>
    bd (f_X6_thrown th_600) (fun r_604 =>
    if r_604 = r_593 then
    (if r_593 = (0 : Int32) then
    (ix (0 : Int32) 1 (
    if lg_cmp (fo_596 (0 : Int32).toNatClampNeg) r_599.toInt64 = (0 : Int32) then
    (nm (x4 + (6 : Int32)) (fun v_611 =>
    f_L_law_L23 L xs rS k_ v_611 rP fP rT fT rG fG rL fL rH fH gi di re ti rPT fPT rTT fTT rGT fGT rLT fLT rHT fHT giT diT reT tiT fS rB_594 fB_595 rO fO pl fa cn ro Qh fo_596 al sv sm asd th_600 ho fr txt_601 tl_602 pos od nu su))
    else
    (some (0 : Int32))))
    else
    (nm (x4 + (6 : Int32)) (fun v_608 =>
    f_L_law_L23 L xs rS k_ v_608 rP fP rT fT rG fG rL fL rH fH gi di re ti rPT fPT rTT fTT rGT fGT rLT fLT rHT fHT giT diT reT tiT fS rB_594 fB_595 rO fO pl fa cn ro Qh fo_596 al sv sm asd th_600 ho fr txt_601 tl_602 pos od nu su)))
    else
    (some (0 : Int32))))))))
    else
    (if v_3 = (24 : Int32) then
    (bd2 (f_X5_clearText rB) (fun r_613 rB_614 =>
    bd3 (f_X6_clearText th tl) (fun r_616 th_617 tl_618 =>
    if r_613 = r_616 then
    (nm (x4 + (6 : Int32)) (fun v_621 =>
    f_L_law_L23 L xs rS k_ v_621 rP fP rT fT rG fG rL fL rH fH gi di re ti rPT fPT rTT fTT rGT fGT rLT fLT rHT fHT giT diT reT tiT fS rB_614 fB rO fO pl fa cn ro Qh fo al sv sm asd th_617 ho fr txt tl_618 pos od nu su))
    else
    (some (0 : Int32)))))
    else
    (if v_3 = (25 : Int32) then
    (bd18 (f_X5_carryOut rP fP rT fT rG fG rL fL rH fH gi di re ti rB fB rO fO pl fa cn ro Qh) (fun r_623 fP_624 rG_625 fG_626 rL_627 fL_628 fH_629 gi_630 di_631 re_632 ti_633 rO_634 fO_635 pl_636 fa_637 cn_638 ro_639 Qh_640 =>
    bd9 (f_X6_carryOut al sv sm th ho txt tl pos od nu) (fun r_642 al_643 sv_644 sm_645 th_646 ho_647 pos_648 od_649 nu_650 =>
    if r_623 = r_642 then
    (nm (x4 + (6 : Int32)) (fun v_653 =>
    f_L_law_L23 L xs rS k_ v_653 rP fP_624 rT fT rG_625 fG_626 rL_627 fL_628 rH fH_629 gi_630 di_631 re_632 ti_633 rPT fPT rTT fTT rGT fGT rLT fLT rHT fHT giT diT reT tiT fS rB fB rO_634 fO_635 pl_636 fa_637 cn_638 ro_639 Qh_640 fo al_643 sv_644 sm_645 asd th_646 ho_647 fr txt tl pos_648 od_649 nu_650 su))
    else
    (some (0 : Int32)))))
    else
    (if v_3 = (26 : Int32) then
    (bd17 (f_L_undo rP fP rT fT rG fG rL fL rH fH gi di re ti cn ro Qh fo) (fun r_655 rP_656 fP_657 rT_658 fT_659 rG_660 fG_661 rL_662 fL_663 rH_664 fH_665 gi_666 di_667 re_668 ti_669 cn_670 fo_671 =>
    bd4 (f_X6_undo al sv sm th) (fun r_673 al_674 sm_675 th_676 =>
    bd (f_X6_thrown th_676) (fun r_678 =>
    if r_678 = r_655 then
    (if r_655 = (0 : Int32) then
    (ix (0 : Int32) 1 (
    if lg_cmp (fo_671 (0 : Int32).toNatClampNeg) r_673.toInt64 = (0 : Int32) then
    (nm (x4 + (6 : Int32)) (fun v_685 =>
    f_L_law_L23 L xs rS k_ v_685 rP_656 fP_657 rT_658 fT_659 rG_660 fG_661 rL_662 fL_663 rH_664 fH_665 gi_666 di_667 re_668 ti_669 rPT fPT rTT fTT rGT fGT rLT fLT rHT fHT giT diT reT tiT fS rB fB rO fO pl fa cn_670 ro Qh fo_671 al_674 sv sm_675 asd th_676 ho fr txt tl pos od nu su))
    else
    (some (0 : Int32))))
    else
    (nm (x4 + (6 : Int32)) (fun v_682 =>
    f_L_law_L23 L xs rS k_ v_682 rP_656 fP_657 rT_658 fT_659 rG_660 fG_661 rL_662 fL_663 rH_664 fH_665 gi_666 di_667 re_668 ti_669 rPT fPT rTT fTT rGT fGT rLT fLT rHT fHT giT diT reT tiT fS rB fB rO fO pl fa cn_670 ro Qh fo_671 al_674 sv sm_675 asd th_676 ho fr txt tl pos od nu su)))
    else
    (some (0 : Int32))))))
    else
    (if v_3 = (27 : Int32) then
    (bd (f_X5_digest rP fP rT fT rG fG rL fL rH fH gi di re ti rB cn) (fun r_687 =>
    bd4 (f_X6_digest al sm th ho tl su) (fun r_689 th_690 ho_691 su_692 =>
    if lg_cmp r_687 r_689 = (0 : Int32) then
    (nm (x4 + (6 : Int32)) (fun v_695 =>
    f_L_law_L23 L xs rS k_ v_695 rP fP rT fT rG fG rL fL rH fH gi di re ti rPT fPT rTT fTT rGT fGT rLT fLT rHT fHT giT diT reT tiT fS rB fB rO fO pl fa cn ro Qh fo al sv sm asd th_690 ho_691 fr txt tl pos od nu su_692))
    else
    (some (0 : Int32)))))
    else
    (nm (x4 + (6 : Int32)) (fun v_696 =>
    f_L_law_L23 L xs rS k_ v_696 rP fP rT fT rG fG rL fL rH fH gi di re ti rPT fPT rTT fTT rGT fGT rLT fLT rHT fHT giT diT reT tiT fS rB fB rO fO pl fa cn ro Qh fo al sv sm asd th ho fr txt tl pos od nu su))))))))))))))))))))))))))))))))
set_option maxHeartbeats 40000000 in
set_option maxRecDepth 100000 in
theorem law_loop {p : Program} {e : Env} {s : State} {m : MethodId} {below : List Frame} {meth : Method} {c : Code} (l : Launch) (hfl : l.stackTraces = false) {b L : Nat} {xs : Nat → Int32} (hx : p.tables.exec = Jvm.exec) (hb : c.code = cL_law) (hr : meth.sig.returnType = ret) (hml : c.maxLocals = 9) (hown : s.vm.findClass RL = some m.cls) (hts : ∀ w ∈ wsL_law, w.before #[Value.ref b] s = true) (hX : va_X b L xs s s.heap) (hbl : b < s.heap.size) (hlocks : meth.locks = false) (X : cx_G) (hK : cx_K X s) (hTS : tx_S s) (hTZ : tx_Z (fun q : Nat => s.heap.size ≤ q) s s.heap) (x0 : Nat) (hh : (Nat → Nat)) (ht : (Nat → Nat)) (ch : (Nat → Nat)) (tx : (Nat → Nat)) (y : (Nat → Nat)) (hy : (Nat → Nat → Nat)) (o0 : Nat) (mo : (Nat → Nat)) {rP0 : Int32} {fP0 : (Nat → Int32)} {rT0 : Int32} {fT0 : (Nat → Int32)} {rG0 : Int32} {fG0 : (Nat → Int32)} {rL0 : Int32} {fL0 : (Nat → Int32)} {rH0 : Int32} {fH0 : (Nat → Int32)} {gi0 : Int32} {di0 : Int32} {re0 : Int32} {ti0 : Int32} {rPT0 : Int32} {fPT0 : (Nat → Int32)} {rTT0 : Int32} {fTT0 : (Nat → Int32)} {rGT0 : Int32} {fGT0 : (Nat → Int32)} {rLT0 : Int32} {fLT0 : (Nat → Int32)} {rHT0 : Int32} {fHT0 : (Nat → Int32)} {giT0 : Int32} {diT0 : Int32} {reT0 : Int32} {tiT0 : Int32} {rS0 : Int32} {fS0 : (Nat → Int32)} {rB0 : Int32} {fB0 : (Nat → Int32)} {rO0 : Int32} {fO0 : (Nat → Int32)} {pl0 : Int32} {fa0 : Int32} {cn0 : Int32} {ro0 : Nat} {Qh0 : (Nat → HS)} {fo0 : (Nat → Int64)} {al0 : (Nat → Int32)} {sv0 : (Nat → Int32)} {sm0 : Int32} {asd0 : (Nat → Int32)} {th0 : Int32} {ho0 : (Nat → Int32)} {fr0 : (Nat → Int32)} {txt0 : (Nat → Int32)} {tl0 : Int32} {pos0 : Int32} {od0 : Int32} {nu0 : (Nat → Int32)} {su0 : Int64} (hD0 : va_D (fun q : Nat => s.heap.size ≤ q) ((wLR X x0 hh ht ch tx y hy rP0 fP0 rT0 fT0 rG0 fG0 rL0 fL0 rH0 fH0 gi0 di0 re0 ti0 rPT0 fPT0 rTT0 fTT0 rGT0 fGT0 rLT0 fLT0 rHT0 fHT0 giT0 diT0 reT0 tiT0 rS0 fS0 rB0 fB0 rO0 fO0 pl0 fa0 cn0 ro0 Qh0) ++ (wOut X o0 fo0) ++ (wMo X mo al0 sv0 sm0 asd0 th0 ho0 fr0 txt0 tl0 pos0 od0 nu0 su0))) (rS : Int32) : ∀ (k_ : Nat) (x4 : Int32) (rP : Int32) (fP : (Nat → Int32)) (rT : Int32) (fT : (Nat → Int32)) (rG : Int32) (fG : (Nat → Int32)) (rL : Int32) (fL : (Nat → Int32)) (rH : Int32) (fH : (Nat → Int32)) (gi : Int32) (di : Int32) (re : Int32) (ti : Int32) (rPT : Int32) (fPT : (Nat → Int32)) (rTT : Int32) (fTT : (Nat → Int32)) (rGT : Int32) (fGT : (Nat → Int32)) (rLT : Int32) (fLT : (Nat → Int32)) (rHT : Int32) (fHT : (Nat → Int32)) (giT : Int32) (diT : Int32) (reT : Int32) (tiT : Int32) (fS : (Nat → Int32)) (rB : Int32) (fB : (Nat → Int32)) (rO : Int32) (fO : (Nat → Int32)) (pl : Int32) (fa : Int32) (cn : Int32) (ro : Nat) (Qh : (Nat → HS)) (fo : (Nat → Int64)) (al : (Nat → Int32)) (sv : (Nat → Int32)) (sm : Int32) (asd : (Nat → Int32)) (th : Int32) (ho : (Nat → Int32)) (fr : (Nat → Int32)) (txt : (Nat → Int32)) (tl : Int32) (pos : Int32) (od : Int32) (nu : (Nat → Int32)) (su : Int64) (cl sl : Nat) (H : Heap) (locs : List Loc) (ls : Array Slot), cl + k_ ≤ 601024 → sl + 6 * k_ ≤ 7293034 → f_L_law_L23 L xs rS k_ x4 rP fP rT fT rG fG rL fL rH fH gi di re ti rPT fPT rTT fTT rGT fGT rLT fLT rHT fHT giT diT reT tiT fS rB fB rO fO pl fa cn ro Qh fo al sv sm asd th ho fr txt tl pos od nu su = some (1 : Int32) → va_P X.1 vwCl ((wLR X x0 hh ht ch tx y hy rP fP rT fT rG fG rL fL rH fH gi di re ti rPT fPT rTT fTT rGT fGT rLT fLT rHT fHT giT diT reT tiT rS fS rB fB rO fO pl fa cn ro Qh) ++ (wOut X o0 fo) ++ (wMo X mo al sv sm asd th ho fr txt tl pos od nu su)) H → va_S (fun q : Nat => s.heap.size ≤ q) s.heap H locs → lv_has ls 9 [(0, .ref b), (1, .ref (x0)), (2, .ref (mo 0)), (3, .ref (o0)), (4, .int x4)] → W p l e room_1 s m #[Value.ref b] below meth c H locs cl sl (lw_Z below #[Value.ref b] s) (F0 m 23 ls []) := by
  have hA : ∀ q : Nat, s.heap.size ≤ q → (fun q : Nat => s.heap.size ≤ q) q := fun _ h => h
  have hbA : ¬ (fun q : Nat => s.heap.size ≤ q) b := Nat.not_le.mpr hbl
  intro k_
  induction k_ with
  | zero => intro x4 rP fP rT fT rG fG rL fL rH fH gi di re ti rPT fPT rTT fTT rGT fGT rLT fLT rHT fHT giT diT reT tiT fS rB fB rO fO pl fa cn ro Qh fo al sv sm asd th ho fr txt tl pos od nu su cl sl H locs ls _ _ hf; exact nomatch (show (none : Option Int32) = some _ from hf)
  | succ k_ ih =>
    intro x4 rP fP rT fT rG fG rL fL rH fH gi di re ti rPT fPT rTT fTT rGT fGT rLT fLT rHT fHT giT diT reT tiT fS rB fB rO fO pl fa cn ro Qh fo al sv sm asd th ho fr txt tl pos od nu su cl sl H locs ls hcl hsl hf hP hS hl
    unfold f_L_law_L23 at hf
    refine lv_iload hx hb dL_law_23 (lv_at hl 4 rfl) ?_
    refine lv_aload_n hx hb dL_law_25 rfl (lv_at hl 0 rfl) ?_
    refine va_slen hx hb hX hbl hbA hS dL_law_26 ?_
    refine lv_bipush (v := 6) hx hb dL_law_27 (by decide) ?_
    refine lv_isub hx hb dL_law_29 ?_
    refine lv_icmp_gt (tgt := 1820) hx hb dL_law_30 (by decide) (fun c_1 => ?_) (fun c_1 => ?_)
    · replace hf := fp_t c_1 hf
      refine lv_iconst (v := 1) hx hb dL_law_1820 (by decide) ?_
      refine va_forget (fun q hq => hS.2.2 q hq) ?_
      refine W.widen (k := 601024) (n := 7293034) (by omega) (by omega) ?_
      exact lw_ret (d0 := s.drawn) (Drawn.sameBut.refl s.drawn lw_cs) hx hb hr hlocks dL_law_1821
    · replace hf := fp_f c_1 hf
      refine lv_aload_n hx hb dL_law_33 rfl (lv_at hl 0 rfl) ?_
      refine lv_iload hx hb dL_law_34 (lv_at hl 4 rfl) ?_
      obtain ⟨hi_2, hf⟩ := ix_of hf
      refine va_sld hx hb hX hbl hbA hS hi_2 dL_law_36 ?_
      refine lv_bipush (v := 31) hx hb dL_law_37 (by decide) ?_
      refine lv_iand hx hb dL_law_39 ?_
      refine lv_topi (fun v_3 ev_3 => ?_)
      replace hf := nm_of ev_3 hf
      by_cases c_4 : v_3 = (0 : Int32)
      · replace hf := fp_t c_4 hf
        refine lv_tableIn (off := 128) (tgt := 168) hx hb dL_law_40 (by rw [c_4]; decide) (by rw [c_4]; decide) (by rw [c_4]; rfl) (by decide) ?_
        refine lv_aload_n hx hb dL_law_168 rfl (lv_at hl 1 rfl) ?_
        refine lv_aload_n hx hb dL_law_169 rfl (lv_at hl 0 rfl) ?_
        refine lv_iload hx hb dL_law_170 (lv_at hl 4 rfl) ?_
        refine lv_iconst (v := 1) hx hb dL_law_172 (by decide) ?_
        refine lv_iadd hx hb dL_law_173 ?_
        obtain ⟨hi_5, hf⟩ := ix_of hf
        refine va_sld hx hb hX hbl hbA hS hi_5 dL_law_174 ?_
        refine lv_aload_n hx hb dL_law_175 rfl (lv_at hl 0 rfl) ?_
        refine lv_iload hx hb dL_law_176 (lv_at hl 4 rfl) ?_
        refine lv_iconst (v := 2) hx hb dL_law_178 (by decide) ?_
        refine lv_iadd hx hb dL_law_179 ?_
        obtain ⟨hi_6, hf⟩ := ix_of hf
        refine va_sld hx hb hX hbl hbA hS hi_6 dL_law_180 ?_
        refine lv_aload_n hx hb dL_law_181 rfl (lv_at hl 3 rfl) ?_
        obtain ⟨r_7, rT_8, fT_9, rH_10, fH_11, cn_12, ro_13, Qh_14, fo_15, hc_16, hf⟩ := bd9_of hf
        refine fw_S (v := some (.int r_7)) (As := [.ref (x0), .int (xs (x4 + (1 : Int32)).toNatClampNeg), .int (xs (x4 + (2 : Int32)).toNatClampNeg), .ref (o0)]) (rest := []) (st1 := [.int r_7]) (ws' := ((wLR X x0 hh ht ch tx y hy rP fP rT_8 fT_9 rG fG rL fL rH_10 fH_11 gi di re ti rPT fPT rTT fTT rGT fGT rLT fLT rHT fHT giT diT reT tiT rS fS rB fB rO fO pl fa cn_12 ro_13 Qh_14) ++ (wOut X o0 fo_15) ++ (wMo X mo al sv sm asd th ho fr txt tl pos od nu su))) (nL := 9) ⟨hx, hb, hml, hown, hts⟩ (c_L_addThing l hfl X x0 hh ht ch tx y hy o0 rP fP rT fT rG fG rL fL rH fH gi di re ti rPT fPT rTT fTT rGT fGT rLT fLT rHT fHT giT diT reT tiT rS fS rB fB rO fO pl fa cn ro Qh fo (xs (x4 + (1 : Int32)).toNatClampNeg) (xs (x4 + (2 : Int32)).toNatClampNeg) r_7 rT_8 fT_9 rH_10 fH_11 cn_12 ro_13 Qh_14 fo_15 hc_16) (vx_cwSW 4 hts gL_law_L_addThing rfl rfl rfl (by decide +kernel) ⟨Nat.le_of_ble_eq_true rfl, Nat.le_of_ble_eq_true rfl⟩) rfl hl.1 rfl (Nat.le_of_ble_eq_true rfl) dL_law_182 hTS hTZ hK hP (hD0.addr (wLw_fst.trans wLw_fst.symm)) hS hA [0, 1, 2, 3, 4, 5, 6, 7, 8, 9, 10, 11, 12, 13, 14, 15, 16, 17, 18, 19, 20, 21, 22, 23, 24, 25, 26, 27, 28, 29, 30, 31, 32, 33, 34, 35, 36, 37, 38, 39, 40, 41, 42, 43, 44, 45, 46, 47, 48, 49, 50, 51, 52, 53, 54, 55, 56, 57, 58, 59, 60, 61, 62, 63, 64, 65, 66, 67, 68, 69, 70, 71, 72, 73, 74, 75, 76, 77] (by decide +kernel) wC_w wJ_w (wLw_fst.trans wLw_fst.symm) rfl ⟨(by show cl + 1 ≤ 601024; omega), (by show sl + 6 ≤ 7293034; omega)⟩ (fun H locs hP hD hS => ?_)
        refine lv_istore (lv' := [(5, .int r_7), (0, .ref b), (1, .ref (x0)), (2, .ref (mo 0)), (3, .ref (o0)), (4, .int x4)]) hx hb dL_law_185 hl (by decide) rfl (fun ls hl => ?_)
        refine lv_aload_n hx hb dL_law_187 rfl (lv_at hl 3 rfl) ?_
        refine lv_aload_n hx hb dL_law_188 rfl (lv_at hl 1 rfl) ?_
        refine lv_iload hx hb dL_law_189 (lv_at hl 5 rfl) ?_
        refine lv_iconst (v := 1) hx hb dL_law_191 (by decide) ?_
        refine lv_iadd hx hb dL_law_192 ?_
        obtain ⟨hi_17, hf⟩ := ix_of hf
        refine va_sld hx hb hX hbl hbA hS hi_17 dL_law_193 ?_
        refine lv_aload_n hx hb dL_law_194 rfl (lv_at hl 1 rfl) ?_
        refine lv_iload hx hb dL_law_195 (lv_at hl 5 rfl) ?_
        refine lv_iconst (v := 2) hx hb dL_law_197 (by decide) ?_
        refine lv_iadd hx hb dL_law_198 ?_
        obtain ⟨hi_18, hf⟩ := ix_of hf
        refine va_sld hx hb hX hbl hbA hS hi_18 dL_law_199 ?_
        obtain ⟨r_19, al_20, sv_21, sm_22, th_23, hc_24, hf⟩ := bd5_of hf
        refine fn_VJ (v := some (.int r_19)) (As := [.int (xs (x4 + (1 : Int32)).toNatClampNeg), .int (xs (x4 + (2 : Int32)).toNatClampNeg)]) (rest := []) (st1 := [.int r_19]) (ws' := ((wLR X x0 hh ht ch tx y hy rP fP rT_8 fT_9 rG fG rL fL rH_10 fH_11 gi di re ti rPT fPT rTT fTT rGT fGT rLT fLT rHT fHT giT diT reT tiT rS fS rB fB rO fO pl fa cn_12 ro_13 Qh_14) ++ (wOut X o0 fo_15) ++ (wMo X mo al_20 sv_21 sm_22 asd th_23 ho fr txt tl pos od nu su))) (nL := 9) ⟨hx, hb, hml, hown, hts⟩ (c_X6_addThing l X mo al sv sm asd th ho fr txt tl pos od nu su (xs (x4 + (1 : Int32)).toNatClampNeg) (xs (x4 + (2 : Int32)).toNatClampNeg) r_19 al_20 sv_21 sm_22 th_23 hc_24) (cwV 2 hts gL_law_X6_addThing rfl rfl rfl (by decide +kernel) ⟨Nat.le_of_ble_eq_true rfl, Nat.le_of_ble_eq_true rfl⟩) 6 rfl rfl rfl rfl hl.1 rfl (Nat.le_of_ble_eq_true rfl) dL_law_200 hK hP (hD0.addr (wLw_fst.trans wLw_fst.symm)) hS hA [78, 79, 80, 81, 82, 83, 84, 85] (by decide +kernel) wC_m wJ_m (wLw_fst.trans wLw_fst.symm) rfl ⟨(by show cl + 1 ≤ 601024; omega), (by show sl + 6 ≤ 7293034; omega)⟩ (fun H locs hP hD hS => ?_)
        refine lv_istore (lv' := [(6, .int r_19), (5, .int r_7), (0, .ref b), (1, .ref (x0)), (2, .ref (mo 0)), (3, .ref (o0)), (4, .int x4)]) hx hb dL_law_203 hl (by decide) rfl (fun ls hl => ?_)
        refine lv_aload_n hx hb dL_law_205 rfl (lv_at hl 4 rfl) ?_
        obtain ⟨r_25, hc_26, hf⟩ := bd_of hf
        refine fn_V (v := some (.int r_25)) (As := []) (rest := []) (st1 := [.int r_25]) (ws' := ((wLR X x0 hh ht ch tx y hy rP fP rT_8 fT_9 rG fG rL fL rH_10 fH_11 gi di re ti rPT fPT rTT fTT rGT fGT rLT fLT rHT fHT giT diT reT tiT rS fS rB fB rO fO pl fa cn_12 ro_13 Qh_14) ++ (wOut X o0 fo_15) ++ (wMo X mo al_20 sv_21 sm_22 asd th_23 ho fr txt tl pos od nu su))) (nL := 9) ⟨hx, hb, hml, hown, hts⟩ (c_X6_thrown l X mo al_20 sv_21 sm_22 asd th_23 ho fr txt tl pos od nu su r_25 hc_26) (cwV 0 hts gL_law_X6_thrown rfl rfl rfl (by decide +kernel) ⟨Nat.le_of_ble_eq_true rfl, Nat.le_of_ble_eq_true rfl⟩) 6 rfl rfl rfl rfl hl.1 rfl (Nat.le_of_ble_eq_true rfl) dL_law_206 hK hP (hD0.addr (wLw_fst.trans wLw_fst.symm)) hS hA [78, 79, 80, 81, 82, 83, 84, 85] (by decide +kernel) wC_m (pt_setid _ _ _ wC_m) rfl ⟨(by show cl + 1 ≤ 601024; omega), (by show sl + 6 ≤ 7293034; omega)⟩ (fun H locs hP hD hS => ?_)
        refine lv_iload hx hb dL_law_209 (lv_at hl 1 rfl) ?_
        refine lv_icmp_eq (tgt := 216) hx hb dL_law_211 (by decide) (fun c_27 => ?_) (fun c_27 => ?_)
        · replace hf := fp_t c_27 hf
          refine lv_iload hx hb dL_law_216 (lv_at hl 1 rfl) ?_
          refine lv_if_ne (tgt := 233) hx hb dL_law_218 (by decide) (fun c_28 => ?_) (fun c_28 => ?_)
          · replace hf := fp_f c_28 hf
            refine lv_goto (tgt := 1814) hx hb dL_law_233 (by decide) ?_
            obtain ⟨v_29, ev_29⟩ : ∃ y : Int32, y = x4 + (6 : Int32) := ⟨_, rfl⟩
            replace hf := nm_of ev_29 hf
            refine lv_iinc (v := v_29) (lv' := [(4, .int v_29), (6, .int r_19), (5, .int r_7), (0, .ref b), (1, .ref (x0)), (2, .ref (mo 0)), (3, .ref (o0))]) hx hb dL_law_1814 hl (k := 6) rfl (by rw [ev_29]; rfl) (by decide) rfl (fun ls hl => ?_)
            refine lv_goto (tgt := 23) hx hb dL_law_1817 (by decide) ?_
            exact ih v_29 rP fP rT_8 fT_9 rG fG rL fL rH_10 fH_11 gi di re ti rPT fPT rTT fTT rGT fGT rLT fLT rHT fHT giT diT reT tiT fS rB fB rO fO pl fa cn_12 ro_13 Qh_14 fo_15 al_20 sv_21 sm_22 asd th_23 ho fr txt tl pos od nu su (cl + 1) (sl + 6) _ _ _ (by omega) (by omega) hf hP hS (lv_sub hl [3, 4, 5, 6, 0] rfl)
          · replace hf := fp_t c_28 hf
            refine lv_aload_n hx hb dL_law_221 rfl (lv_at hl 5 rfl) ?_
            refine lv_iconst (v := 0) hx hb dL_law_222 (by decide) ?_
            obtain ⟨hi_30, hf⟩ := ix_of hf
            refine va_lald hx hb hK.1 hP 77 1 (get_mid 77 rfl) rfl hi_30 dL_law_223 ?_
            refine lv_iload hx hb dL_law_224 (lv_at hl 0 rfl) ?_
            refine lv_i2l (v := r_19.toInt64) hx hb dL_law_226 rfl ?_
            refine W.lcmp hx hb dL_law_227 ?_
            refine lv_if_eq (tgt := 233) hx hb dL_law_228 (by decide) (fun c_31 => ?_) (fun c_31 => ?_)
            · replace hf := fp_t c_31 hf
              refine lv_goto (tgt := 1814) hx hb dL_law_233 (by decide) ?_
              obtain ⟨v_32, ev_32⟩ : ∃ y : Int32, y = x4 + (6 : Int32) := ⟨_, rfl⟩
              replace hf := nm_of ev_32 hf
              refine lv_iinc (v := v_32) (lv' := [(4, .int v_32), (6, .int r_19), (5, .int r_7), (0, .ref b), (1, .ref (x0)), (2, .ref (mo 0)), (3, .ref (o0))]) hx hb dL_law_1814 hl (k := 6) rfl (by rw [ev_32]; rfl) (by decide) rfl (fun ls hl => ?_)
              refine lv_goto (tgt := 23) hx hb dL_law_1817 (by decide) ?_
              exact ih v_32 rP fP rT_8 fT_9 rG fG rL fL rH_10 fH_11 gi di re ti rPT fPT rTT fTT rGT fGT rLT fLT rHT fHT giT diT reT tiT fS rB fB rO fO pl fa cn_12 ro_13 Qh_14 fo_15 al_20 sv_21 sm_22 asd th_23 ho fr txt tl pos od nu su (cl + 1) (sl + 6) _ _ _ (by omega) (by omega) hf hP hS (lv_sub hl [3, 4, 5, 6, 0] rfl)
            · replace hf := fp_f c_31 hf
              refine lv_iconst (v := 0) hx hb dL_law_231 (by decide) ?_
              exact absurd (Option.some.inj hf) (by decide)
        · replace hf := fp_f c_27 hf
          refine lv_iconst (v := 0) hx hb dL_law_214 (by decide) ?_
          exact absurd (Option.some.inj hf) (by decide)
      · replace hf := fp_f c_4 hf
        by_cases c_33 : v_3 = (1 : Int32)
        · replace hf := fp_t c_33 hf
          refine lv_tableIn (off := 196) (tgt := 236) hx hb dL_law_40 (by rw [c_33]; decide) (by rw [c_33]; decide) (by rw [c_33]; rfl) (by decide) ?_
          refine lv_aload_n hx hb dL_law_236 rfl (lv_at hl 1 rfl) ?_
          refine lv_aload_n hx hb dL_law_237 rfl (lv_at hl 0 rfl) ?_
          refine lv_iload hx hb dL_law_238 (lv_at hl 4 rfl) ?_
          refine lv_iconst (v := 1) hx hb dL_law_240 (by decide) ?_
          refine lv_iadd hx hb dL_law_241 ?_
          obtain ⟨hi_34, hf⟩ := ix_of hf
          refine va_sld hx hb hX hbl hbA hS hi_34 dL_law_242 ?_
          refine lv_aload_n hx hb dL_law_243 rfl (lv_at hl 0 rfl) ?_
          refine lv_iload hx hb dL_law_244 (lv_at hl 4 rfl) ?_
          refine lv_iconst (v := 2) hx hb dL_law_246 (by decide) ?_
          refine lv_iadd hx hb dL_law_247 ?_
          obtain ⟨hi_35, hf⟩ := ix_of hf
          refine va_sld hx hb hX hbl hbA hS hi_35 dL_law_248 ?_
          refine lv_aload_n hx hb dL_law_249 rfl (lv_at hl 3 rfl) ?_
          obtain ⟨r_36, fT_37, fH_38, cn_39, ro_40, Qh_41, fo_42, hc_43, hf⟩ := bd7_of hf
          refine fw_S (v := some (.int r_36)) (As := [.ref (x0), .int (xs (x4 + (1 : Int32)).toNatClampNeg), .int (xs (x4 + (2 : Int32)).toNatClampNeg), .ref (o0)]) (rest := []) (st1 := [.int r_36]) (ws' := ((wLR X x0 hh ht ch tx y hy rP fP rT fT_37 rG fG rL fL rH fH_38 gi di re ti rPT fPT rTT fTT rGT fGT rLT fLT rHT fHT giT diT reT tiT rS fS rB fB rO fO pl fa cn_39 ro_40 Qh_41) ++ (wOut X o0 fo_42) ++ (wMo X mo al sv sm asd th ho fr txt tl pos od nu su))) (nL := 9) ⟨hx, hb, hml, hown, hts⟩ (c_L_setMask l hfl X x0 hh ht ch tx y hy o0 rP fP rT fT rG fG rL fL rH fH gi di re ti rPT fPT rTT fTT rGT fGT rLT fLT rHT fHT giT diT reT tiT rS fS rB fB rO fO pl fa cn ro Qh fo (xs (x4 + (1 : Int32)).toNatClampNeg) (xs (x4 + (2 : Int32)).toNatClampNeg) r_36 fT_37 fH_38 cn_39 ro_40 Qh_41 fo_42 hc_43) (vx_cwSW 4 hts gL_law_L_setMask rfl rfl rfl (by decide +kernel) ⟨Nat.le_of_ble_eq_true rfl, Nat.le_of_ble_eq_true rfl⟩) rfl hl.1 rfl (Nat.le_of_ble_eq_true rfl) dL_law_250 hTS hTZ hK hP (hD0.addr (wLw_fst.trans wLw_fst.symm)) hS hA [0, 1, 2, 3, 4, 5, 6, 7, 8, 9, 10, 11, 12, 13, 14, 15, 16, 17, 18, 19, 20, 21, 22, 23, 24, 25, 26, 27, 28, 29, 30, 31, 32, 33, 34, 35, 36, 37, 38, 39, 40, 41, 42, 43, 44, 45, 46, 47, 48, 49, 50, 51, 52, 53, 54, 55, 56, 57, 58, 59, 60, 61, 62, 63, 64, 65, 66, 67, 68, 69, 70, 71, 72, 73, 74, 75, 76, 77] (by decide +kernel) wC_w wJ_w (wLw_fst.trans wLw_fst.symm) rfl ⟨(by show cl + 1 ≤ 601024; omega), (by show sl + 6 ≤ 7293034; omega)⟩ (fun H locs hP hD hS => ?_)
          refine lv_istore (lv' := [(5, .int r_36), (0, .ref b), (1, .ref (x0)), (2, .ref (mo 0)), (3, .ref (o0)), (4, .int x4)]) hx hb dL_law_253 hl (by decide) rfl (fun ls hl => ?_)
          refine lv_aload_n hx hb dL_law_255 rfl (lv_at hl 3 rfl) ?_
          refine lv_aload_n hx hb dL_law_256 rfl (lv_at hl 1 rfl) ?_
          refine lv_iload hx hb dL_law_257 (lv_at hl 5 rfl) ?_
          refine lv_iconst (v := 1) hx hb dL_law_259 (by decide) ?_
          refine lv_iadd hx hb dL_law_260 ?_
          obtain ⟨hi_44, hf⟩ := ix_of hf
          refine va_sld hx hb hX hbl hbA hS hi_44 dL_law_261 ?_
          refine lv_aload_n hx hb dL_law_262 rfl (lv_at hl 1 rfl) ?_
          refine lv_iload hx hb dL_law_263 (lv_at hl 5 rfl) ?_
          refine lv_iconst (v := 2) hx hb dL_law_265 (by decide) ?_
          refine lv_iadd hx hb dL_law_266 ?_
          obtain ⟨hi_45, hf⟩ := ix_of hf
          refine va_sld hx hb hX hbl hbA hS hi_45 dL_law_267 ?_
          obtain ⟨r_46, al_47, sv_48, sm_49, th_50, hc_51, hf⟩ := bd5_of hf
          refine fn_VJ (v := some (.int r_46)) (As := [.int (xs (x4 + (1 : Int32)).toNatClampNeg), .int (xs (x4 + (2 : Int32)).toNatClampNeg)]) (rest := []) (st1 := [.int r_46]) (ws' := ((wLR X x0 hh ht ch tx y hy rP fP rT fT_37 rG fG rL fL rH fH_38 gi di re ti rPT fPT rTT fTT rGT fGT rLT fLT rHT fHT giT diT reT tiT rS fS rB fB rO fO pl fa cn_39 ro_40 Qh_41) ++ (wOut X o0 fo_42) ++ (wMo X mo al_47 sv_48 sm_49 asd th_50 ho fr txt tl pos od nu su))) (nL := 9) ⟨hx, hb, hml, hown, hts⟩ (c_X6_setMask l X mo al sv sm asd th ho fr txt tl pos od nu su (xs (x4 + (1 : Int32)).toNatClampNeg) (xs (x4 + (2 : Int32)).toNatClampNeg) r_46 al_47 sv_48 sm_49 th_50 hc_51) (cwV 2 hts gL_law_X6_setMask rfl rfl rfl (by decide +kernel) ⟨Nat.le_of_ble_eq_true rfl, Nat.le_of_ble_eq_true rfl⟩) 6 rfl rfl rfl rfl hl.1 rfl (Nat.le_of_ble_eq_true rfl) dL_law_268 hK hP (hD0.addr (wLw_fst.trans wLw_fst.symm)) hS hA [78, 79, 80, 81, 82, 83, 84, 85] (by decide +kernel) wC_m wJ_m (wLw_fst.trans wLw_fst.symm) rfl ⟨(by show cl + 1 ≤ 601024; omega), (by show sl + 6 ≤ 7293034; omega)⟩ (fun H locs hP hD hS => ?_)
          refine lv_istore (lv' := [(6, .int r_46), (5, .int r_36), (0, .ref b), (1, .ref (x0)), (2, .ref (mo 0)), (3, .ref (o0)), (4, .int x4)]) hx hb dL_law_271 hl (by decide) rfl (fun ls hl => ?_)
          refine lv_aload_n hx hb dL_law_273 rfl (lv_at hl 4 rfl) ?_
          obtain ⟨r_52, hc_53, hf⟩ := bd_of hf
          refine fn_V (v := some (.int r_52)) (As := []) (rest := []) (st1 := [.int r_52]) (ws' := ((wLR X x0 hh ht ch tx y hy rP fP rT fT_37 rG fG rL fL rH fH_38 gi di re ti rPT fPT rTT fTT rGT fGT rLT fLT rHT fHT giT diT reT tiT rS fS rB fB rO fO pl fa cn_39 ro_40 Qh_41) ++ (wOut X o0 fo_42) ++ (wMo X mo al_47 sv_48 sm_49 asd th_50 ho fr txt tl pos od nu su))) (nL := 9) ⟨hx, hb, hml, hown, hts⟩ (c_X6_thrown l X mo al_47 sv_48 sm_49 asd th_50 ho fr txt tl pos od nu su r_52 hc_53) (cwV 0 hts gL_law_X6_thrown rfl rfl rfl (by decide +kernel) ⟨Nat.le_of_ble_eq_true rfl, Nat.le_of_ble_eq_true rfl⟩) 6 rfl rfl rfl rfl hl.1 rfl (Nat.le_of_ble_eq_true rfl) dL_law_274 hK hP (hD0.addr (wLw_fst.trans wLw_fst.symm)) hS hA [78, 79, 80, 81, 82, 83, 84, 85] (by decide +kernel) wC_m (pt_setid _ _ _ wC_m) rfl ⟨(by show cl + 1 ≤ 601024; omega), (by show sl + 6 ≤ 7293034; omega)⟩ (fun H locs hP hD hS => ?_)
          refine lv_iload hx hb dL_law_277 (lv_at hl 1 rfl) ?_
          refine lv_icmp_eq (tgt := 284) hx hb dL_law_279 (by decide) (fun c_54 => ?_) (fun c_54 => ?_)
          · replace hf := fp_t c_54 hf
            refine lv_iload hx hb dL_law_284 (lv_at hl 1 rfl) ?_
            refine lv_if_ne (tgt := 301) hx hb dL_law_286 (by decide) (fun c_55 => ?_) (fun c_55 => ?_)
            · replace hf := fp_f c_55 hf
              refine lv_goto (tgt := 1814) hx hb dL_law_301 (by decide) ?_
              obtain ⟨v_56, ev_56⟩ : ∃ y : Int32, y = x4 + (6 : Int32) := ⟨_, rfl⟩
              replace hf := nm_of ev_56 hf
              refine lv_iinc (v := v_56) (lv' := [(4, .int v_56), (6, .int r_46), (5, .int r_36), (0, .ref b), (1, .ref (x0)), (2, .ref (mo 0)), (3, .ref (o0))]) hx hb dL_law_1814 hl (k := 6) rfl (by rw [ev_56]; rfl) (by decide) rfl (fun ls hl => ?_)
              refine lv_goto (tgt := 23) hx hb dL_law_1817 (by decide) ?_
              exact ih v_56 rP fP rT fT_37 rG fG rL fL rH fH_38 gi di re ti rPT fPT rTT fTT rGT fGT rLT fLT rHT fHT giT diT reT tiT fS rB fB rO fO pl fa cn_39 ro_40 Qh_41 fo_42 al_47 sv_48 sm_49 asd th_50 ho fr txt tl pos od nu su (cl + 1) (sl + 6) _ _ _ (by omega) (by omega) hf hP hS (lv_sub hl [3, 4, 5, 6, 0] rfl)
            · replace hf := fp_t c_55 hf
              refine lv_aload_n hx hb dL_law_289 rfl (lv_at hl 5 rfl) ?_
              refine lv_iconst (v := 0) hx hb dL_law_290 (by decide) ?_
              obtain ⟨hi_57, hf⟩ := ix_of hf
              refine va_lald hx hb hK.1 hP 77 1 (get_mid 77 rfl) rfl hi_57 dL_law_291 ?_
              refine lv_iload hx hb dL_law_292 (lv_at hl 0 rfl) ?_
              refine lv_i2l (v := r_46.toInt64) hx hb dL_law_294 rfl ?_
              refine W.lcmp hx hb dL_law_295 ?_
              refine lv_if_eq (tgt := 301) hx hb dL_law_296 (by decide) (fun c_58 => ?_) (fun c_58 => ?_)
              · replace hf := fp_t c_58 hf
                refine lv_goto (tgt := 1814) hx hb dL_law_301 (by decide) ?_
                obtain ⟨v_59, ev_59⟩ : ∃ y : Int32, y = x4 + (6 : Int32) := ⟨_, rfl⟩
                replace hf := nm_of ev_59 hf
                refine lv_iinc (v := v_59) (lv' := [(4, .int v_59), (6, .int r_46), (5, .int r_36), (0, .ref b), (1, .ref (x0)), (2, .ref (mo 0)), (3, .ref (o0))]) hx hb dL_law_1814 hl (k := 6) rfl (by rw [ev_59]; rfl) (by decide) rfl (fun ls hl => ?_)
                refine lv_goto (tgt := 23) hx hb dL_law_1817 (by decide) ?_
                exact ih v_59 rP fP rT fT_37 rG fG rL fL rH fH_38 gi di re ti rPT fPT rTT fTT rGT fGT rLT fLT rHT fHT giT diT reT tiT fS rB fB rO fO pl fa cn_39 ro_40 Qh_41 fo_42 al_47 sv_48 sm_49 asd th_50 ho fr txt tl pos od nu su (cl + 1) (sl + 6) _ _ _ (by omega) (by omega) hf hP hS (lv_sub hl [3, 4, 5, 6, 0] rfl)
              · replace hf := fp_f c_58 hf
                refine lv_iconst (v := 0) hx hb dL_law_299 (by decide) ?_
                exact absurd (Option.some.inj hf) (by decide)
          · replace hf := fp_f c_54 hf
            refine lv_iconst (v := 0) hx hb dL_law_282 (by decide) ?_
            exact absurd (Option.some.inj hf) (by decide)
        · replace hf := fp_f c_33 hf
          by_cases c_60 : v_3 = (2 : Int32)
          · replace hf := fp_t c_60 hf
            refine lv_tableIn (off := 264) (tgt := 304) hx hb dL_law_40 (by rw [c_60]; decide) (by rw [c_60]; decide) (by rw [c_60]; rfl) (by decide) ?_
            refine lv_aload_n hx hb dL_law_304 rfl (lv_at hl 1 rfl) ?_
            refine lv_aload_n hx hb dL_law_305 rfl (lv_at hl 0 rfl) ?_
            refine lv_iload hx hb dL_law_306 (lv_at hl 4 rfl) ?_
            refine lv_iconst (v := 1) hx hb dL_law_308 (by decide) ?_
            refine lv_iadd hx hb dL_law_309 ?_
            obtain ⟨hi_61, hf⟩ := ix_of hf
            refine va_sld hx hb hX hbl hbA hS hi_61 dL_law_310 ?_
            refine lv_aload_n hx hb dL_law_311 rfl (lv_at hl 0 rfl) ?_
            refine lv_iload hx hb dL_law_312 (lv_at hl 4 rfl) ?_
            refine lv_iconst (v := 2) hx hb dL_law_314 (by decide) ?_
            refine lv_iadd hx hb dL_law_315 ?_
            obtain ⟨hi_62, hf⟩ := ix_of hf
            refine va_sld hx hb hX hbl hbA hS hi_62 dL_law_316 ?_
            refine lv_aload_n hx hb dL_law_317 rfl (lv_at hl 3 rfl) ?_
            obtain ⟨r_63, fP_64, cn_65, ro_66, Qh_67, fo_68, hc_69, hf⟩ := bd6_of hf
            refine fw_S (v := some (.int r_63)) (As := [.ref (x0), .int (xs (x4 + (1 : Int32)).toNatClampNeg), .int (xs (x4 + (2 : Int32)).toNatClampNeg), .ref (o0)]) (rest := []) (st1 := [.int r_63]) (ws' := ((wLR X x0 hh ht ch tx y hy rP fP_64 rT fT rG fG rL fL rH fH gi di re ti rPT fPT rTT fTT rGT fGT rLT fLT rHT fHT giT diT reT tiT rS fS rB fB rO fO pl fa cn_65 ro_66 Qh_67) ++ (wOut X o0 fo_68) ++ (wMo X mo al sv sm asd th ho fr txt tl pos od nu su))) (nL := 9) ⟨hx, hb, hml, hown, hts⟩ (c_L_setBase l hfl X x0 hh ht ch tx y hy o0 rP fP rT fT rG fG rL fL rH fH gi di re ti rPT fPT rTT fTT rGT fGT rLT fLT rHT fHT giT diT reT tiT rS fS rB fB rO fO pl fa cn ro Qh fo (xs (x4 + (1 : Int32)).toNatClampNeg) (xs (x4 + (2 : Int32)).toNatClampNeg) r_63 fP_64 cn_65 ro_66 Qh_67 fo_68 hc_69) (vx_cwSW 4 hts gL_law_L_setBase rfl rfl rfl (by decide +kernel) ⟨Nat.le_of_ble_eq_true rfl, Nat.le_of_ble_eq_true rfl⟩) rfl hl.1 rfl (Nat.le_of_ble_eq_true rfl) dL_law_318 hTS hTZ hK hP (hD0.addr (wLw_fst.trans wLw_fst.symm)) hS hA [0, 1, 2, 3, 4, 5, 6, 7, 8, 9, 10, 11, 12, 13, 14, 15, 16, 17, 18, 19, 20, 21, 22, 23, 24, 25, 26, 27, 28, 29, 30, 31, 32, 33, 34, 35, 36, 37, 38, 39, 40, 41, 42, 43, 44, 45, 46, 47, 48, 49, 50, 51, 52, 53, 54, 55, 56, 57, 58, 59, 60, 61, 62, 63, 64, 65, 66, 67, 68, 69, 70, 71, 72, 73, 74, 75, 76, 77] (by decide +kernel) wC_w wJ_w (wLw_fst.trans wLw_fst.symm) rfl ⟨(by show cl + 1 ≤ 601024; omega), (by show sl + 6 ≤ 7293034; omega)⟩ (fun H locs hP hD hS => ?_)
            refine lv_istore (lv' := [(5, .int r_63), (0, .ref b), (1, .ref (x0)), (2, .ref (mo 0)), (3, .ref (o0)), (4, .int x4)]) hx hb dL_law_321 hl (by decide) rfl (fun ls hl => ?_)
            refine lv_aload_n hx hb dL_law_323 rfl (lv_at hl 3 rfl) ?_
            refine lv_aload_n hx hb dL_law_324 rfl (lv_at hl 1 rfl) ?_
            refine lv_iload hx hb dL_law_325 (lv_at hl 5 rfl) ?_
            refine lv_iconst (v := 1) hx hb dL_law_327 (by decide) ?_
            refine lv_iadd hx hb dL_law_328 ?_
            obtain ⟨hi_70, hf⟩ := ix_of hf
            refine va_sld hx hb hX hbl hbA hS hi_70 dL_law_329 ?_
            refine lv_aload_n hx hb dL_law_330 rfl (lv_at hl 1 rfl) ?_
            refine lv_iload hx hb dL_law_331 (lv_at hl 5 rfl) ?_
            refine lv_iconst (v := 2) hx hb dL_law_333 (by decide) ?_
            refine lv_iadd hx hb dL_law_334 ?_
            obtain ⟨hi_71, hf⟩ := ix_of hf
            refine va_sld hx hb hX hbl hbA hS hi_71 dL_law_335 ?_
            obtain ⟨r_72, al_73, sv_74, sm_75, th_76, hc_77, hf⟩ := bd5_of hf
            refine fn_VJ (v := some (.int r_72)) (As := [.int (xs (x4 + (1 : Int32)).toNatClampNeg), .int (xs (x4 + (2 : Int32)).toNatClampNeg)]) (rest := []) (st1 := [.int r_72]) (ws' := ((wLR X x0 hh ht ch tx y hy rP fP_64 rT fT rG fG rL fL rH fH gi di re ti rPT fPT rTT fTT rGT fGT rLT fLT rHT fHT giT diT reT tiT rS fS rB fB rO fO pl fa cn_65 ro_66 Qh_67) ++ (wOut X o0 fo_68) ++ (wMo X mo al_73 sv_74 sm_75 asd th_76 ho fr txt tl pos od nu su))) (nL := 9) ⟨hx, hb, hml, hown, hts⟩ (c_X6_setBase l X mo al sv sm asd th ho fr txt tl pos od nu su (xs (x4 + (1 : Int32)).toNatClampNeg) (xs (x4 + (2 : Int32)).toNatClampNeg) r_72 al_73 sv_74 sm_75 th_76 hc_77) (cwV 2 hts gL_law_X6_setBase rfl rfl rfl (by decide +kernel) ⟨Nat.le_of_ble_eq_true rfl, Nat.le_of_ble_eq_true rfl⟩) 6 rfl rfl rfl rfl hl.1 rfl (Nat.le_of_ble_eq_true rfl) dL_law_336 hK hP (hD0.addr (wLw_fst.trans wLw_fst.symm)) hS hA [78, 79, 80, 81, 82, 83, 84, 85] (by decide +kernel) wC_m wJ_m (wLw_fst.trans wLw_fst.symm) rfl ⟨(by show cl + 1 ≤ 601024; omega), (by show sl + 6 ≤ 7293034; omega)⟩ (fun H locs hP hD hS => ?_)
            refine lv_istore (lv' := [(6, .int r_72), (5, .int r_63), (0, .ref b), (1, .ref (x0)), (2, .ref (mo 0)), (3, .ref (o0)), (4, .int x4)]) hx hb dL_law_339 hl (by decide) rfl (fun ls hl => ?_)
            refine lv_aload_n hx hb dL_law_341 rfl (lv_at hl 4 rfl) ?_
            obtain ⟨r_78, hc_79, hf⟩ := bd_of hf
            refine fn_V (v := some (.int r_78)) (As := []) (rest := []) (st1 := [.int r_78]) (ws' := ((wLR X x0 hh ht ch tx y hy rP fP_64 rT fT rG fG rL fL rH fH gi di re ti rPT fPT rTT fTT rGT fGT rLT fLT rHT fHT giT diT reT tiT rS fS rB fB rO fO pl fa cn_65 ro_66 Qh_67) ++ (wOut X o0 fo_68) ++ (wMo X mo al_73 sv_74 sm_75 asd th_76 ho fr txt tl pos od nu su))) (nL := 9) ⟨hx, hb, hml, hown, hts⟩ (c_X6_thrown l X mo al_73 sv_74 sm_75 asd th_76 ho fr txt tl pos od nu su r_78 hc_79) (cwV 0 hts gL_law_X6_thrown rfl rfl rfl (by decide +kernel) ⟨Nat.le_of_ble_eq_true rfl, Nat.le_of_ble_eq_true rfl⟩) 6 rfl rfl rfl rfl hl.1 rfl (Nat.le_of_ble_eq_true rfl) dL_law_342 hK hP (hD0.addr (wLw_fst.trans wLw_fst.symm)) hS hA [78, 79, 80, 81, 82, 83, 84, 85] (by decide +kernel) wC_m (pt_setid _ _ _ wC_m) rfl ⟨(by show cl + 1 ≤ 601024; omega), (by show sl + 6 ≤ 7293034; omega)⟩ (fun H locs hP hD hS => ?_)
            refine lv_iload hx hb dL_law_345 (lv_at hl 1 rfl) ?_
            refine lv_icmp_eq (tgt := 352) hx hb dL_law_347 (by decide) (fun c_80 => ?_) (fun c_80 => ?_)
            · replace hf := fp_t c_80 hf
              refine lv_iload hx hb dL_law_352 (lv_at hl 1 rfl) ?_
              refine lv_if_ne (tgt := 369) hx hb dL_law_354 (by decide) (fun c_81 => ?_) (fun c_81 => ?_)
              · replace hf := fp_f c_81 hf
                refine lv_goto (tgt := 1814) hx hb dL_law_369 (by decide) ?_
                obtain ⟨v_82, ev_82⟩ : ∃ y : Int32, y = x4 + (6 : Int32) := ⟨_, rfl⟩
                replace hf := nm_of ev_82 hf
                refine lv_iinc (v := v_82) (lv' := [(4, .int v_82), (6, .int r_72), (5, .int r_63), (0, .ref b), (1, .ref (x0)), (2, .ref (mo 0)), (3, .ref (o0))]) hx hb dL_law_1814 hl (k := 6) rfl (by rw [ev_82]; rfl) (by decide) rfl (fun ls hl => ?_)
                refine lv_goto (tgt := 23) hx hb dL_law_1817 (by decide) ?_
                exact ih v_82 rP fP_64 rT fT rG fG rL fL rH fH gi di re ti rPT fPT rTT fTT rGT fGT rLT fLT rHT fHT giT diT reT tiT fS rB fB rO fO pl fa cn_65 ro_66 Qh_67 fo_68 al_73 sv_74 sm_75 asd th_76 ho fr txt tl pos od nu su (cl + 1) (sl + 6) _ _ _ (by omega) (by omega) hf hP hS (lv_sub hl [3, 4, 5, 6, 0] rfl)
              · replace hf := fp_t c_81 hf
                refine lv_aload_n hx hb dL_law_357 rfl (lv_at hl 5 rfl) ?_
                refine lv_iconst (v := 0) hx hb dL_law_358 (by decide) ?_
                obtain ⟨hi_83, hf⟩ := ix_of hf
                refine va_lald hx hb hK.1 hP 77 1 (get_mid 77 rfl) rfl hi_83 dL_law_359 ?_
                refine lv_iload hx hb dL_law_360 (lv_at hl 0 rfl) ?_
                refine lv_i2l (v := r_72.toInt64) hx hb dL_law_362 rfl ?_
                refine W.lcmp hx hb dL_law_363 ?_
                refine lv_if_eq (tgt := 369) hx hb dL_law_364 (by decide) (fun c_84 => ?_) (fun c_84 => ?_)
                · replace hf := fp_t c_84 hf
                  refine lv_goto (tgt := 1814) hx hb dL_law_369 (by decide) ?_
                  obtain ⟨v_85, ev_85⟩ : ∃ y : Int32, y = x4 + (6 : Int32) := ⟨_, rfl⟩
                  replace hf := nm_of ev_85 hf
                  refine lv_iinc (v := v_85) (lv' := [(4, .int v_85), (6, .int r_72), (5, .int r_63), (0, .ref b), (1, .ref (x0)), (2, .ref (mo 0)), (3, .ref (o0))]) hx hb dL_law_1814 hl (k := 6) rfl (by rw [ev_85]; rfl) (by decide) rfl (fun ls hl => ?_)
                  refine lv_goto (tgt := 23) hx hb dL_law_1817 (by decide) ?_
                  exact ih v_85 rP fP_64 rT fT rG fG rL fL rH fH gi di re ti rPT fPT rTT fTT rGT fGT rLT fLT rHT fHT giT diT reT tiT fS rB fB rO fO pl fa cn_65 ro_66 Qh_67 fo_68 al_73 sv_74 sm_75 asd th_76 ho fr txt tl pos od nu su (cl + 1) (sl + 6) _ _ _ (by omega) (by omega) hf hP hS (lv_sub hl [3, 4, 5, 6, 0] rfl)
                · replace hf := fp_f c_84 hf
                  refine lv_iconst (v := 0) hx hb dL_law_367 (by decide) ?_
                  exact absurd (Option.some.inj hf) (by decide)
            · replace hf := fp_f c_80 hf
              refine lv_iconst (v := 0) hx hb dL_law_350 (by decide) ?_
              exact absurd (Option.some.inj hf) (by decide)
          · replace hf := fp_f c_60 hf
            by_cases c_86 : v_3 = (3 : Int32)
            · replace hf := fp_t c_86 hf
              refine lv_tableIn (off := 332) (tgt := 372) hx hb dL_law_40 (by rw [c_86]; decide) (by rw [c_86]; decide) (by rw [c_86]; rfl) (by decide) ?_
              refine lv_aload_n hx hb dL_law_372 rfl (lv_at hl 1 rfl) ?_
              refine lv_aload_n hx hb dL_law_373 rfl (lv_at hl 0 rfl) ?_
              refine lv_iload hx hb dL_law_374 (lv_at hl 4 rfl) ?_
              refine lv_iconst (v := 1) hx hb dL_law_376 (by decide) ?_
              refine lv_iadd hx hb dL_law_377 ?_
              obtain ⟨hi_87, hf⟩ := ix_of hf
              refine va_sld hx hb hX hbl hbA hS hi_87 dL_law_378 ?_
              refine lv_aload_n hx hb dL_law_379 rfl (lv_at hl 0 rfl) ?_
              refine lv_iload hx hb dL_law_380 (lv_at hl 4 rfl) ?_
              refine lv_iconst (v := 2) hx hb dL_law_382 (by decide) ?_
              refine lv_iadd hx hb dL_law_383 ?_
              obtain ⟨hi_88, hf⟩ := ix_of hf
              refine va_sld hx hb hX hbl hbA hS hi_88 dL_law_384 ?_
              refine lv_aload_n hx hb dL_law_385 rfl (lv_at hl 3 rfl) ?_
              obtain ⟨r_89, fT_90, fH_91, cn_92, ro_93, Qh_94, fo_95, hc_96, hf⟩ := bd7_of hf
              refine fw_S (v := some (.int r_89)) (As := [.ref (x0), .int (xs (x4 + (1 : Int32)).toNatClampNeg), .int (xs (x4 + (2 : Int32)).toNatClampNeg), .ref (o0)]) (rest := []) (st1 := [.int r_89]) (ws' := ((wLR X x0 hh ht ch tx y hy rP fP rT fT_90 rG fG rL fL rH fH_91 gi di re ti rPT fPT rTT fTT rGT fGT rLT fLT rHT fHT giT diT reT tiT rS fS rB fB rO fO pl fa cn_92 ro_93 Qh_94) ++ (wOut X o0 fo_95) ++ (wMo X mo al sv sm asd th ho fr txt tl pos od nu su))) (nL := 9) ⟨hx, hb, hml, hown, hts⟩ (c_L_give l hfl X x0 hh ht ch tx y hy o0 rP fP rT fT rG fG rL fL rH fH gi di re ti rPT fPT rTT fTT rGT fGT rLT fLT rHT fHT giT diT reT tiT rS fS rB fB rO fO pl fa cn ro Qh fo (xs (x4 + (1 : Int32)).toNatClampNeg) (xs (x4 + (2 : Int32)).toNatClampNeg) r_89 fT_90 fH_91 cn_92 ro_93 Qh_94 fo_95 hc_96) (vx_cwSW 4 hts gL_law_L_give rfl rfl rfl (by decide +kernel) ⟨Nat.le_of_ble_eq_true rfl, Nat.le_of_ble_eq_true rfl⟩) rfl hl.1 rfl (Nat.le_of_ble_eq_true rfl) dL_law_386 hTS hTZ hK hP (hD0.addr (wLw_fst.trans wLw_fst.symm)) hS hA [0, 1, 2, 3, 4, 5, 6, 7, 8, 9, 10, 11, 12, 13, 14, 15, 16, 17, 18, 19, 20, 21, 22, 23, 24, 25, 26, 27, 28, 29, 30, 31, 32, 33, 34, 35, 36, 37, 38, 39, 40, 41, 42, 43, 44, 45, 46, 47, 48, 49, 50, 51, 52, 53, 54, 55, 56, 57, 58, 59, 60, 61, 62, 63, 64, 65, 66, 67, 68, 69, 70, 71, 72, 73, 74, 75, 76, 77] (by decide +kernel) wC_w wJ_w (wLw_fst.trans wLw_fst.symm) rfl ⟨(by show cl + 1 ≤ 601024; omega), (by show sl + 6 ≤ 7293034; omega)⟩ (fun H locs hP hD hS => ?_)
              refine lv_istore (lv' := [(5, .int r_89), (0, .ref b), (1, .ref (x0)), (2, .ref (mo 0)), (3, .ref (o0)), (4, .int x4)]) hx hb dL_law_389 hl (by decide) rfl (fun ls hl => ?_)
              refine lv_aload_n hx hb dL_law_391 rfl (lv_at hl 3 rfl) ?_
              refine lv_aload_n hx hb dL_law_392 rfl (lv_at hl 1 rfl) ?_
              refine lv_iload hx hb dL_law_393 (lv_at hl 5 rfl) ?_
              refine lv_iconst (v := 1) hx hb dL_law_395 (by decide) ?_
              refine lv_iadd hx hb dL_law_396 ?_
              obtain ⟨hi_97, hf⟩ := ix_of hf
              refine va_sld hx hb hX hbl hbA hS hi_97 dL_law_397 ?_
              refine lv_aload_n hx hb dL_law_398 rfl (lv_at hl 1 rfl) ?_
              refine lv_iload hx hb dL_law_399 (lv_at hl 5 rfl) ?_
              refine lv_iconst (v := 2) hx hb dL_law_401 (by decide) ?_
              refine lv_iadd hx hb dL_law_402 ?_
              obtain ⟨hi_98, hf⟩ := ix_of hf
              refine va_sld hx hb hX hbl hbA hS hi_98 dL_law_403 ?_
              obtain ⟨r_99, al_100, sv_101, sm_102, th_103, hc_104, hf⟩ := bd5_of hf
              refine fn_VJ (v := some (.int r_99)) (As := [.int (xs (x4 + (1 : Int32)).toNatClampNeg), .int (xs (x4 + (2 : Int32)).toNatClampNeg)]) (rest := []) (st1 := [.int r_99]) (ws' := ((wLR X x0 hh ht ch tx y hy rP fP rT fT_90 rG fG rL fL rH fH_91 gi di re ti rPT fPT rTT fTT rGT fGT rLT fLT rHT fHT giT diT reT tiT rS fS rB fB rO fO pl fa cn_92 ro_93 Qh_94) ++ (wOut X o0 fo_95) ++ (wMo X mo al_100 sv_101 sm_102 asd th_103 ho fr txt tl pos od nu su))) (nL := 9) ⟨hx, hb, hml, hown, hts⟩ (c_X6_give l X mo al sv sm asd th ho fr txt tl pos od nu su (xs (x4 + (1 : Int32)).toNatClampNeg) (xs (x4 + (2 : Int32)).toNatClampNeg) r_99 al_100 sv_101 sm_102 th_103 hc_104) (cwV 2 hts gL_law_X6_give rfl rfl rfl (by decide +kernel) ⟨Nat.le_of_ble_eq_true rfl, Nat.le_of_ble_eq_true rfl⟩) 6 rfl rfl rfl rfl hl.1 rfl (Nat.le_of_ble_eq_true rfl) dL_law_404 hK hP (hD0.addr (wLw_fst.trans wLw_fst.symm)) hS hA [78, 79, 80, 81, 82, 83, 84, 85] (by decide +kernel) wC_m wJ_m (wLw_fst.trans wLw_fst.symm) rfl ⟨(by show cl + 1 ≤ 601024; omega), (by show sl + 6 ≤ 7293034; omega)⟩ (fun H locs hP hD hS => ?_)
              refine lv_istore (lv' := [(6, .int r_99), (5, .int r_89), (0, .ref b), (1, .ref (x0)), (2, .ref (mo 0)), (3, .ref (o0)), (4, .int x4)]) hx hb dL_law_407 hl (by decide) rfl (fun ls hl => ?_)
              refine lv_aload_n hx hb dL_law_409 rfl (lv_at hl 4 rfl) ?_
              obtain ⟨r_105, hc_106, hf⟩ := bd_of hf
              refine fn_V (v := some (.int r_105)) (As := []) (rest := []) (st1 := [.int r_105]) (ws' := ((wLR X x0 hh ht ch tx y hy rP fP rT fT_90 rG fG rL fL rH fH_91 gi di re ti rPT fPT rTT fTT rGT fGT rLT fLT rHT fHT giT diT reT tiT rS fS rB fB rO fO pl fa cn_92 ro_93 Qh_94) ++ (wOut X o0 fo_95) ++ (wMo X mo al_100 sv_101 sm_102 asd th_103 ho fr txt tl pos od nu su))) (nL := 9) ⟨hx, hb, hml, hown, hts⟩ (c_X6_thrown l X mo al_100 sv_101 sm_102 asd th_103 ho fr txt tl pos od nu su r_105 hc_106) (cwV 0 hts gL_law_X6_thrown rfl rfl rfl (by decide +kernel) ⟨Nat.le_of_ble_eq_true rfl, Nat.le_of_ble_eq_true rfl⟩) 6 rfl rfl rfl rfl hl.1 rfl (Nat.le_of_ble_eq_true rfl) dL_law_410 hK hP (hD0.addr (wLw_fst.trans wLw_fst.symm)) hS hA [78, 79, 80, 81, 82, 83, 84, 85] (by decide +kernel) wC_m (pt_setid _ _ _ wC_m) rfl ⟨(by show cl + 1 ≤ 601024; omega), (by show sl + 6 ≤ 7293034; omega)⟩ (fun H locs hP hD hS => ?_)
              refine lv_iload hx hb dL_law_413 (lv_at hl 1 rfl) ?_
              refine lv_icmp_eq (tgt := 420) hx hb dL_law_415 (by decide) (fun c_107 => ?_) (fun c_107 => ?_)
              · replace hf := fp_t c_107 hf
                refine lv_iload hx hb dL_law_420 (lv_at hl 1 rfl) ?_
                refine lv_if_ne (tgt := 437) hx hb dL_law_422 (by decide) (fun c_108 => ?_) (fun c_108 => ?_)
                · replace hf := fp_f c_108 hf
                  refine lv_goto (tgt := 1814) hx hb dL_law_437 (by decide) ?_
                  obtain ⟨v_109, ev_109⟩ : ∃ y : Int32, y = x4 + (6 : Int32) := ⟨_, rfl⟩
                  replace hf := nm_of ev_109 hf
                  refine lv_iinc (v := v_109) (lv' := [(4, .int v_109), (6, .int r_99), (5, .int r_89), (0, .ref b), (1, .ref (x0)), (2, .ref (mo 0)), (3, .ref (o0))]) hx hb dL_law_1814 hl (k := 6) rfl (by rw [ev_109]; rfl) (by decide) rfl (fun ls hl => ?_)
                  refine lv_goto (tgt := 23) hx hb dL_law_1817 (by decide) ?_
                  exact ih v_109 rP fP rT fT_90 rG fG rL fL rH fH_91 gi di re ti rPT fPT rTT fTT rGT fGT rLT fLT rHT fHT giT diT reT tiT fS rB fB rO fO pl fa cn_92 ro_93 Qh_94 fo_95 al_100 sv_101 sm_102 asd th_103 ho fr txt tl pos od nu su (cl + 1) (sl + 6) _ _ _ (by omega) (by omega) hf hP hS (lv_sub hl [3, 4, 5, 6, 0] rfl)
                · replace hf := fp_t c_108 hf
                  refine lv_aload_n hx hb dL_law_425 rfl (lv_at hl 5 rfl) ?_
                  refine lv_iconst (v := 0) hx hb dL_law_426 (by decide) ?_
                  obtain ⟨hi_110, hf⟩ := ix_of hf
                  refine va_lald hx hb hK.1 hP 77 1 (get_mid 77 rfl) rfl hi_110 dL_law_427 ?_
                  refine lv_iload hx hb dL_law_428 (lv_at hl 0 rfl) ?_
                  refine lv_i2l (v := r_99.toInt64) hx hb dL_law_430 rfl ?_
                  refine W.lcmp hx hb dL_law_431 ?_
                  refine lv_if_eq (tgt := 437) hx hb dL_law_432 (by decide) (fun c_111 => ?_) (fun c_111 => ?_)
                  · replace hf := fp_t c_111 hf
                    refine lv_goto (tgt := 1814) hx hb dL_law_437 (by decide) ?_
                    obtain ⟨v_112, ev_112⟩ : ∃ y : Int32, y = x4 + (6 : Int32) := ⟨_, rfl⟩
                    replace hf := nm_of ev_112 hf
                    refine lv_iinc (v := v_112) (lv' := [(4, .int v_112), (6, .int r_99), (5, .int r_89), (0, .ref b), (1, .ref (x0)), (2, .ref (mo 0)), (3, .ref (o0))]) hx hb dL_law_1814 hl (k := 6) rfl (by rw [ev_112]; rfl) (by decide) rfl (fun ls hl => ?_)
                    refine lv_goto (tgt := 23) hx hb dL_law_1817 (by decide) ?_
                    exact ih v_112 rP fP rT fT_90 rG fG rL fL rH fH_91 gi di re ti rPT fPT rTT fTT rGT fGT rLT fLT rHT fHT giT diT reT tiT fS rB fB rO fO pl fa cn_92 ro_93 Qh_94 fo_95 al_100 sv_101 sm_102 asd th_103 ho fr txt tl pos od nu su (cl + 1) (sl + 6) _ _ _ (by omega) (by omega) hf hP hS (lv_sub hl [3, 4, 5, 6, 0] rfl)
                  · replace hf := fp_f c_111 hf
                    refine lv_iconst (v := 0) hx hb dL_law_435 (by decide) ?_
                    exact absurd (Option.some.inj hf) (by decide)
              · replace hf := fp_f c_107 hf
                refine lv_iconst (v := 0) hx hb dL_law_418 (by decide) ?_
                exact absurd (Option.some.inj hf) (by decide)
            · replace hf := fp_f c_86 hf
              by_cases c_113 : v_3 = (4 : Int32)
              · replace hf := fp_t c_113 hf
                refine lv_tableIn (off := 400) (tgt := 440) hx hb dL_law_40 (by rw [c_113]; decide) (by rw [c_113]; decide) (by rw [c_113]; rfl) (by decide) ?_
                refine lv_aload_n hx hb dL_law_440 rfl (lv_at hl 1 rfl) ?_
                refine lv_aload_n hx hb dL_law_441 rfl (lv_at hl 0 rfl) ?_
                refine lv_iload hx hb dL_law_442 (lv_at hl 4 rfl) ?_
                refine lv_iconst (v := 1) hx hb dL_law_444 (by decide) ?_
                refine lv_iadd hx hb dL_law_445 ?_
                obtain ⟨hi_114, hf⟩ := ix_of hf
                refine va_sld hx hb hX hbl hbA hS hi_114 dL_law_446 ?_
                refine lv_aload_n hx hb dL_law_447 rfl (lv_at hl 0 rfl) ?_
                refine lv_iload hx hb dL_law_448 (lv_at hl 4 rfl) ?_
                refine lv_iconst (v := 2) hx hb dL_law_450 (by decide) ?_
                refine lv_iadd hx hb dL_law_451 ?_
                obtain ⟨hi_115, hf⟩ := ix_of hf
                refine va_sld hx hb hX hbl hbA hS hi_115 dL_law_452 ?_
                refine lv_aload_n hx hb dL_law_453 rfl (lv_at hl 0 rfl) ?_
                refine lv_iload hx hb dL_law_454 (lv_at hl 4 rfl) ?_
                refine lv_iconst (v := 3) hx hb dL_law_456 (by decide) ?_
                refine lv_iadd hx hb dL_law_457 ?_
                obtain ⟨hi_116, hf⟩ := ix_of hf
                refine va_sld hx hb hX hbl hbA hS hi_116 dL_law_458 ?_
                refine lv_aload_n hx hb dL_law_459 rfl (lv_at hl 0 rfl) ?_
                refine lv_iload hx hb dL_law_460 (lv_at hl 4 rfl) ?_
                refine lv_iconst (v := 4) hx hb dL_law_462 (by decide) ?_
                refine lv_iadd hx hb dL_law_463 ?_
                obtain ⟨hi_117, hf⟩ := ix_of hf
                refine va_sld hx hb hX hbl hbA hS hi_117 dL_law_464 ?_
                refine lv_aload_n hx hb dL_law_465 rfl (lv_at hl 0 rfl) ?_
                refine lv_iload hx hb dL_law_466 (lv_at hl 4 rfl) ?_
                refine lv_iconst (v := 5) hx hb dL_law_468 (by decide) ?_
                refine lv_iadd hx hb dL_law_469 ?_
                obtain ⟨hi_118, hf⟩ := ix_of hf
                refine va_sld hx hb hX hbl hbA hS hi_118 dL_law_470 ?_
                refine lv_aload_n hx hb dL_law_471 rfl (lv_at hl 3 rfl) ?_
                obtain ⟨r_119, rG_120, fG_121, fH_122, gi_123, cn_124, ro_125, Qh_126, fo_127, hc_128, hf⟩ := bd9_of hf
                refine fw_S (v := some (.int r_119)) (As := [.ref (x0), .int (xs (x4 + (1 : Int32)).toNatClampNeg), .int (xs (x4 + (2 : Int32)).toNatClampNeg), .int (xs (x4 + (3 : Int32)).toNatClampNeg), .int (xs (x4 + (4 : Int32)).toNatClampNeg), .int (xs (x4 + (5 : Int32)).toNatClampNeg), .ref (o0)]) (rest := []) (st1 := [.int r_119]) (ws' := ((wLR X x0 hh ht ch tx y hy rP fP rT fT rG_120 fG_121 rL fL rH fH_122 gi_123 di re ti rPT fPT rTT fTT rGT fGT rLT fLT rHT fHT giT diT reT tiT rS fS rB fB rO fO pl fa cn_124 ro_125 Qh_126) ++ (wOut X o0 fo_127) ++ (wMo X mo al sv sm asd th ho fr txt tl pos od nu su))) (nL := 9) ⟨hx, hb, hml, hown, hts⟩ (c_L_grant l hfl X x0 hh ht ch tx y hy o0 rP fP rT fT rG fG rL fL rH fH gi di re ti rPT fPT rTT fTT rGT fGT rLT fLT rHT fHT giT diT reT tiT rS fS rB fB rO fO pl fa cn ro Qh fo (xs (x4 + (1 : Int32)).toNatClampNeg) (xs (x4 + (2 : Int32)).toNatClampNeg) (xs (x4 + (3 : Int32)).toNatClampNeg) (xs (x4 + (4 : Int32)).toNatClampNeg) (xs (x4 + (5 : Int32)).toNatClampNeg) r_119 rG_120 fG_121 fH_122 gi_123 cn_124 ro_125 Qh_126 fo_127 hc_128) (vx_cwSW 7 hts gL_law_L_grant rfl rfl rfl (by decide +kernel) ⟨Nat.le_of_ble_eq_true rfl, Nat.le_of_ble_eq_true rfl⟩) rfl hl.1 rfl (Nat.le_of_ble_eq_true rfl) dL_law_472 hTS hTZ hK hP (hD0.addr (wLw_fst.trans wLw_fst.symm)) hS hA [0, 1, 2, 3, 4, 5, 6, 7, 8, 9, 10, 11, 12, 13, 14, 15, 16, 17, 18, 19, 20, 21, 22, 23, 24, 25, 26, 27, 28, 29, 30, 31, 32, 33, 34, 35, 36, 37, 38, 39, 40, 41, 42, 43, 44, 45, 46, 47, 48, 49, 50, 51, 52, 53, 54, 55, 56, 57, 58, 59, 60, 61, 62, 63, 64, 65, 66, 67, 68, 69, 70, 71, 72, 73, 74, 75, 76, 77] (by decide +kernel) wC_w wJ_w (wLw_fst.trans wLw_fst.symm) rfl ⟨(by show cl + 1 ≤ 601024; omega), (by show sl + 6 ≤ 7293034; omega)⟩ (fun H locs hP hD hS => ?_)
                refine lv_istore (lv' := [(5, .int r_119), (0, .ref b), (1, .ref (x0)), (2, .ref (mo 0)), (3, .ref (o0)), (4, .int x4)]) hx hb dL_law_475 hl (by decide) rfl (fun ls hl => ?_)
                refine lv_aload_n hx hb dL_law_477 rfl (lv_at hl 3 rfl) ?_
                refine lv_aload_n hx hb dL_law_478 rfl (lv_at hl 1 rfl) ?_
                refine lv_iload hx hb dL_law_479 (lv_at hl 5 rfl) ?_
                refine lv_iconst (v := 1) hx hb dL_law_481 (by decide) ?_
                refine lv_iadd hx hb dL_law_482 ?_
                obtain ⟨hi_129, hf⟩ := ix_of hf
                refine va_sld hx hb hX hbl hbA hS hi_129 dL_law_483 ?_
                refine lv_aload_n hx hb dL_law_484 rfl (lv_at hl 1 rfl) ?_
                refine lv_iload hx hb dL_law_485 (lv_at hl 5 rfl) ?_
                refine lv_iconst (v := 2) hx hb dL_law_487 (by decide) ?_
                refine lv_iadd hx hb dL_law_488 ?_
                obtain ⟨hi_130, hf⟩ := ix_of hf
                refine va_sld hx hb hX hbl hbA hS hi_130 dL_law_489 ?_
                refine lv_aload_n hx hb dL_law_490 rfl (lv_at hl 1 rfl) ?_
                refine lv_iload hx hb dL_law_491 (lv_at hl 5 rfl) ?_
                refine lv_iconst (v := 3) hx hb dL_law_493 (by decide) ?_
                refine lv_iadd hx hb dL_law_494 ?_
                obtain ⟨hi_131, hf⟩ := ix_of hf
                refine va_sld hx hb hX hbl hbA hS hi_131 dL_law_495 ?_
                refine lv_aload_n hx hb dL_law_496 rfl (lv_at hl 1 rfl) ?_
                refine lv_iload hx hb dL_law_497 (lv_at hl 5 rfl) ?_
                refine lv_iconst (v := 4) hx hb dL_law_499 (by decide) ?_
                refine lv_iadd hx hb dL_law_500 ?_
                obtain ⟨hi_132, hf⟩ := ix_of hf
                refine va_sld hx hb hX hbl hbA hS hi_132 dL_law_501 ?_
                refine lv_aload_n hx hb dL_law_502 rfl (lv_at hl 1 rfl) ?_
                refine lv_iload hx hb dL_law_503 (lv_at hl 5 rfl) ?_
                refine lv_iconst (v := 5) hx hb dL_law_505 (by decide) ?_
                refine lv_iadd hx hb dL_law_506 ?_
                obtain ⟨hi_133, hf⟩ := ix_of hf
                refine va_sld hx hb hX hbl hbA hS hi_133 dL_law_507 ?_
                obtain ⟨r_134, al_135, sv_136, sm_137, th_138, ho_139, hc_140, hf⟩ := bd6_of hf
                refine fn_VJ (v := some (.int r_134)) (As := [.int (xs (x4 + (1 : Int32)).toNatClampNeg), .int (xs (x4 + (2 : Int32)).toNatClampNeg), .int (xs (x4 + (3 : Int32)).toNatClampNeg), .int (xs (x4 + (4 : Int32)).toNatClampNeg), .int (xs (x4 + (5 : Int32)).toNatClampNeg)]) (rest := []) (st1 := [.int r_134]) (ws' := ((wLR X x0 hh ht ch tx y hy rP fP rT fT rG_120 fG_121 rL fL rH fH_122 gi_123 di re ti rPT fPT rTT fTT rGT fGT rLT fLT rHT fHT giT diT reT tiT rS fS rB fB rO fO pl fa cn_124 ro_125 Qh_126) ++ (wOut X o0 fo_127) ++ (wMo X mo al_135 sv_136 sm_137 asd th_138 ho_139 fr txt tl pos od nu su))) (nL := 9) ⟨hx, hb, hml, hown, hts⟩ (c_X6_grant l X mo al sv sm asd th ho fr txt tl pos od nu su (xs (x4 + (1 : Int32)).toNatClampNeg) (xs (x4 + (2 : Int32)).toNatClampNeg) (xs (x4 + (3 : Int32)).toNatClampNeg) (xs (x4 + (4 : Int32)).toNatClampNeg) (xs (x4 + (5 : Int32)).toNatClampNeg) r_134 al_135 sv_136 sm_137 th_138 ho_139 hc_140) (cwV 5 hts gL_law_X6_grant rfl rfl rfl (by decide +kernel) ⟨Nat.le_of_ble_eq_true rfl, Nat.le_of_ble_eq_true rfl⟩) 6 rfl rfl rfl rfl hl.1 rfl (Nat.le_of_ble_eq_true rfl) dL_law_508 hK hP (hD0.addr (wLw_fst.trans wLw_fst.symm)) hS hA [78, 79, 80, 81, 82, 83, 84, 85] (by decide +kernel) wC_m wJ_m (wLw_fst.trans wLw_fst.symm) rfl ⟨(by show cl + 1 ≤ 601024; omega), (by show sl + 6 ≤ 7293034; omega)⟩ (fun H locs hP hD hS => ?_)
                refine lv_istore (lv' := [(6, .int r_134), (5, .int r_119), (0, .ref b), (1, .ref (x0)), (2, .ref (mo 0)), (3, .ref (o0)), (4, .int x4)]) hx hb dL_law_511 hl (by decide) rfl (fun ls hl => ?_)
                refine lv_aload_n hx hb dL_law_513 rfl (lv_at hl 4 rfl) ?_
                obtain ⟨r_141, hc_142, hf⟩ := bd_of hf
                refine fn_V (v := some (.int r_141)) (As := []) (rest := []) (st1 := [.int r_141]) (ws' := ((wLR X x0 hh ht ch tx y hy rP fP rT fT rG_120 fG_121 rL fL rH fH_122 gi_123 di re ti rPT fPT rTT fTT rGT fGT rLT fLT rHT fHT giT diT reT tiT rS fS rB fB rO fO pl fa cn_124 ro_125 Qh_126) ++ (wOut X o0 fo_127) ++ (wMo X mo al_135 sv_136 sm_137 asd th_138 ho_139 fr txt tl pos od nu su))) (nL := 9) ⟨hx, hb, hml, hown, hts⟩ (c_X6_thrown l X mo al_135 sv_136 sm_137 asd th_138 ho_139 fr txt tl pos od nu su r_141 hc_142) (cwV 0 hts gL_law_X6_thrown rfl rfl rfl (by decide +kernel) ⟨Nat.le_of_ble_eq_true rfl, Nat.le_of_ble_eq_true rfl⟩) 6 rfl rfl rfl rfl hl.1 rfl (Nat.le_of_ble_eq_true rfl) dL_law_514 hK hP (hD0.addr (wLw_fst.trans wLw_fst.symm)) hS hA [78, 79, 80, 81, 82, 83, 84, 85] (by decide +kernel) wC_m (pt_setid _ _ _ wC_m) rfl ⟨(by show cl + 1 ≤ 601024; omega), (by show sl + 6 ≤ 7293034; omega)⟩ (fun H locs hP hD hS => ?_)
                refine lv_iload hx hb dL_law_517 (lv_at hl 1 rfl) ?_
                refine lv_icmp_eq (tgt := 524) hx hb dL_law_519 (by decide) (fun c_143 => ?_) (fun c_143 => ?_)
                · replace hf := fp_t c_143 hf
                  refine lv_iload hx hb dL_law_524 (lv_at hl 1 rfl) ?_
                  refine lv_if_ne (tgt := 541) hx hb dL_law_526 (by decide) (fun c_144 => ?_) (fun c_144 => ?_)
                  · replace hf := fp_f c_144 hf
                    refine lv_goto (tgt := 1814) hx hb dL_law_541 (by decide) ?_
                    obtain ⟨v_145, ev_145⟩ : ∃ y : Int32, y = x4 + (6 : Int32) := ⟨_, rfl⟩
                    replace hf := nm_of ev_145 hf
                    refine lv_iinc (v := v_145) (lv' := [(4, .int v_145), (6, .int r_134), (5, .int r_119), (0, .ref b), (1, .ref (x0)), (2, .ref (mo 0)), (3, .ref (o0))]) hx hb dL_law_1814 hl (k := 6) rfl (by rw [ev_145]; rfl) (by decide) rfl (fun ls hl => ?_)
                    refine lv_goto (tgt := 23) hx hb dL_law_1817 (by decide) ?_
                    exact ih v_145 rP fP rT fT rG_120 fG_121 rL fL rH fH_122 gi_123 di re ti rPT fPT rTT fTT rGT fGT rLT fLT rHT fHT giT diT reT tiT fS rB fB rO fO pl fa cn_124 ro_125 Qh_126 fo_127 al_135 sv_136 sm_137 asd th_138 ho_139 fr txt tl pos od nu su (cl + 1) (sl + 6) _ _ _ (by omega) (by omega) hf hP hS (lv_sub hl [3, 4, 5, 6, 0] rfl)
                  · replace hf := fp_t c_144 hf
                    refine lv_aload_n hx hb dL_law_529 rfl (lv_at hl 5 rfl) ?_
                    refine lv_iconst (v := 0) hx hb dL_law_530 (by decide) ?_
                    obtain ⟨hi_146, hf⟩ := ix_of hf
                    refine va_lald hx hb hK.1 hP 77 1 (get_mid 77 rfl) rfl hi_146 dL_law_531 ?_
                    refine lv_iload hx hb dL_law_532 (lv_at hl 0 rfl) ?_
                    refine lv_i2l (v := r_134.toInt64) hx hb dL_law_534 rfl ?_
                    refine W.lcmp hx hb dL_law_535 ?_
                    refine lv_if_eq (tgt := 541) hx hb dL_law_536 (by decide) (fun c_147 => ?_) (fun c_147 => ?_)
                    · replace hf := fp_t c_147 hf
                      refine lv_goto (tgt := 1814) hx hb dL_law_541 (by decide) ?_
                      obtain ⟨v_148, ev_148⟩ : ∃ y : Int32, y = x4 + (6 : Int32) := ⟨_, rfl⟩
                      replace hf := nm_of ev_148 hf
                      refine lv_iinc (v := v_148) (lv' := [(4, .int v_148), (6, .int r_134), (5, .int r_119), (0, .ref b), (1, .ref (x0)), (2, .ref (mo 0)), (3, .ref (o0))]) hx hb dL_law_1814 hl (k := 6) rfl (by rw [ev_148]; rfl) (by decide) rfl (fun ls hl => ?_)
                      refine lv_goto (tgt := 23) hx hb dL_law_1817 (by decide) ?_
                      exact ih v_148 rP fP rT fT rG_120 fG_121 rL fL rH fH_122 gi_123 di re ti rPT fPT rTT fTT rGT fGT rLT fLT rHT fHT giT diT reT tiT fS rB fB rO fO pl fa cn_124 ro_125 Qh_126 fo_127 al_135 sv_136 sm_137 asd th_138 ho_139 fr txt tl pos od nu su (cl + 1) (sl + 6) _ _ _ (by omega) (by omega) hf hP hS (lv_sub hl [3, 4, 5, 6, 0] rfl)
                    · replace hf := fp_f c_147 hf
                      refine lv_iconst (v := 0) hx hb dL_law_539 (by decide) ?_
                      exact absurd (Option.some.inj hf) (by decide)
                · replace hf := fp_f c_143 hf
                  refine lv_iconst (v := 0) hx hb dL_law_522 (by decide) ?_
                  exact absurd (Option.some.inj hf) (by decide)
              · replace hf := fp_f c_113 hf
                by_cases c_149 : v_3 = (5 : Int32)
                · replace hf := fp_t c_149 hf
                  refine lv_tableIn (off := 504) (tgt := 544) hx hb dL_law_40 (by rw [c_149]; decide) (by rw [c_149]; decide) (by rw [c_149]; rfl) (by decide) ?_
                  refine lv_aload_n hx hb dL_law_544 rfl (lv_at hl 1 rfl) ?_
                  refine lv_aload_n hx hb dL_law_545 rfl (lv_at hl 0 rfl) ?_
                  refine lv_iload hx hb dL_law_546 (lv_at hl 4 rfl) ?_
                  refine lv_iconst (v := 1) hx hb dL_law_548 (by decide) ?_
                  refine lv_iadd hx hb dL_law_549 ?_
                  obtain ⟨hi_150, hf⟩ := ix_of hf
                  refine va_sld hx hb hX hbl hbA hS hi_150 dL_law_550 ?_
                  refine lv_aload_n hx hb dL_law_551 rfl (lv_at hl 3 rfl) ?_
                  obtain ⟨r_151, rG_152, fG_153, fH_154, re_155, cn_156, ro_157, Qh_158, fo_159, hc_160, hf⟩ := bd9_of hf
                  refine fw_S (v := some (.int r_151)) (As := [.ref (x0), .int (xs (x4 + (1 : Int32)).toNatClampNeg), .ref (o0)]) (rest := []) (st1 := [.int r_151]) (ws' := ((wLR X x0 hh ht ch tx y hy rP fP rT fT rG_152 fG_153 rL fL rH fH_154 gi di re_155 ti rPT fPT rTT fTT rGT fGT rLT fLT rHT fHT giT diT reT tiT rS fS rB fB rO fO pl fa cn_156 ro_157 Qh_158) ++ (wOut X o0 fo_159) ++ (wMo X mo al sv sm asd th ho fr txt tl pos od nu su))) (nL := 9) ⟨hx, hb, hml, hown, hts⟩ (c_L_revoke l hfl X x0 hh ht ch tx y hy o0 rP fP rT fT rG fG rL fL rH fH gi di re ti rPT fPT rTT fTT rGT fGT rLT fLT rHT fHT giT diT reT tiT rS fS rB fB rO fO pl fa cn ro Qh fo (xs (x4 + (1 : Int32)).toNatClampNeg) r_151 rG_152 fG_153 fH_154 re_155 cn_156 ro_157 Qh_158 fo_159 hc_160) (vx_cwSW 3 hts gL_law_L_revoke rfl rfl rfl (by decide +kernel) ⟨Nat.le_of_ble_eq_true rfl, Nat.le_of_ble_eq_true rfl⟩) rfl hl.1 rfl (Nat.le_of_ble_eq_true rfl) dL_law_552 hTS hTZ hK hP (hD0.addr (wLw_fst.trans wLw_fst.symm)) hS hA [0, 1, 2, 3, 4, 5, 6, 7, 8, 9, 10, 11, 12, 13, 14, 15, 16, 17, 18, 19, 20, 21, 22, 23, 24, 25, 26, 27, 28, 29, 30, 31, 32, 33, 34, 35, 36, 37, 38, 39, 40, 41, 42, 43, 44, 45, 46, 47, 48, 49, 50, 51, 52, 53, 54, 55, 56, 57, 58, 59, 60, 61, 62, 63, 64, 65, 66, 67, 68, 69, 70, 71, 72, 73, 74, 75, 76, 77] (by decide +kernel) wC_w wJ_w (wLw_fst.trans wLw_fst.symm) rfl ⟨(by show cl + 1 ≤ 601024; omega), (by show sl + 6 ≤ 7293034; omega)⟩ (fun H locs hP hD hS => ?_)
                  refine lv_istore (lv' := [(5, .int r_151), (0, .ref b), (1, .ref (x0)), (2, .ref (mo 0)), (3, .ref (o0)), (4, .int x4)]) hx hb dL_law_555 hl (by decide) rfl (fun ls hl => ?_)
                  refine lv_aload_n hx hb dL_law_557 rfl (lv_at hl 3 rfl) ?_
                  refine lv_aload_n hx hb dL_law_558 rfl (lv_at hl 1 rfl) ?_
                  refine lv_iload hx hb dL_law_559 (lv_at hl 5 rfl) ?_
                  refine lv_iconst (v := 1) hx hb dL_law_561 (by decide) ?_
                  refine lv_iadd hx hb dL_law_562 ?_
                  obtain ⟨hi_161, hf⟩ := ix_of hf
                  refine va_sld hx hb hX hbl hbA hS hi_161 dL_law_563 ?_
                  obtain ⟨r_162, al_163, sv_164, sm_165, th_166, ho_167, hc_168, hf⟩ := bd6_of hf
                  refine fn_VJ (v := some (.int r_162)) (As := [.int (xs (x4 + (1 : Int32)).toNatClampNeg)]) (rest := []) (st1 := [.int r_162]) (ws' := ((wLR X x0 hh ht ch tx y hy rP fP rT fT rG_152 fG_153 rL fL rH fH_154 gi di re_155 ti rPT fPT rTT fTT rGT fGT rLT fLT rHT fHT giT diT reT tiT rS fS rB fB rO fO pl fa cn_156 ro_157 Qh_158) ++ (wOut X o0 fo_159) ++ (wMo X mo al_163 sv_164 sm_165 asd th_166 ho_167 fr txt tl pos od nu su))) (nL := 9) ⟨hx, hb, hml, hown, hts⟩ (c_X6_revoke l X mo al sv sm asd th ho fr txt tl pos od nu su (xs (x4 + (1 : Int32)).toNatClampNeg) r_162 al_163 sv_164 sm_165 th_166 ho_167 hc_168) (cwV 1 hts gL_law_X6_revoke rfl rfl rfl (by decide +kernel) ⟨Nat.le_of_ble_eq_true rfl, Nat.le_of_ble_eq_true rfl⟩) 6 rfl rfl rfl rfl hl.1 rfl (Nat.le_of_ble_eq_true rfl) dL_law_564 hK hP (hD0.addr (wLw_fst.trans wLw_fst.symm)) hS hA [78, 79, 80, 81, 82, 83, 84, 85] (by decide +kernel) wC_m wJ_m (wLw_fst.trans wLw_fst.symm) rfl ⟨(by show cl + 1 ≤ 601024; omega), (by show sl + 6 ≤ 7293034; omega)⟩ (fun H locs hP hD hS => ?_)
                  refine lv_istore (lv' := [(6, .int r_162), (5, .int r_151), (0, .ref b), (1, .ref (x0)), (2, .ref (mo 0)), (3, .ref (o0)), (4, .int x4)]) hx hb dL_law_567 hl (by decide) rfl (fun ls hl => ?_)
                  refine lv_aload_n hx hb dL_law_569 rfl (lv_at hl 4 rfl) ?_
                  obtain ⟨r_169, hc_170, hf⟩ := bd_of hf
                  refine fn_V (v := some (.int r_169)) (As := []) (rest := []) (st1 := [.int r_169]) (ws' := ((wLR X x0 hh ht ch tx y hy rP fP rT fT rG_152 fG_153 rL fL rH fH_154 gi di re_155 ti rPT fPT rTT fTT rGT fGT rLT fLT rHT fHT giT diT reT tiT rS fS rB fB rO fO pl fa cn_156 ro_157 Qh_158) ++ (wOut X o0 fo_159) ++ (wMo X mo al_163 sv_164 sm_165 asd th_166 ho_167 fr txt tl pos od nu su))) (nL := 9) ⟨hx, hb, hml, hown, hts⟩ (c_X6_thrown l X mo al_163 sv_164 sm_165 asd th_166 ho_167 fr txt tl pos od nu su r_169 hc_170) (cwV 0 hts gL_law_X6_thrown rfl rfl rfl (by decide +kernel) ⟨Nat.le_of_ble_eq_true rfl, Nat.le_of_ble_eq_true rfl⟩) 6 rfl rfl rfl rfl hl.1 rfl (Nat.le_of_ble_eq_true rfl) dL_law_570 hK hP (hD0.addr (wLw_fst.trans wLw_fst.symm)) hS hA [78, 79, 80, 81, 82, 83, 84, 85] (by decide +kernel) wC_m (pt_setid _ _ _ wC_m) rfl ⟨(by show cl + 1 ≤ 601024; omega), (by show sl + 6 ≤ 7293034; omega)⟩ (fun H locs hP hD hS => ?_)
                  refine lv_iload hx hb dL_law_573 (lv_at hl 1 rfl) ?_
                  refine lv_icmp_eq (tgt := 580) hx hb dL_law_575 (by decide) (fun c_171 => ?_) (fun c_171 => ?_)
                  · replace hf := fp_t c_171 hf
                    refine lv_iload hx hb dL_law_580 (lv_at hl 1 rfl) ?_
                    refine lv_if_ne (tgt := 597) hx hb dL_law_582 (by decide) (fun c_172 => ?_) (fun c_172 => ?_)
                    · replace hf := fp_f c_172 hf
                      refine lv_goto (tgt := 1814) hx hb dL_law_597 (by decide) ?_
                      obtain ⟨v_173, ev_173⟩ : ∃ y : Int32, y = x4 + (6 : Int32) := ⟨_, rfl⟩
                      replace hf := nm_of ev_173 hf
                      refine lv_iinc (v := v_173) (lv' := [(4, .int v_173), (6, .int r_162), (5, .int r_151), (0, .ref b), (1, .ref (x0)), (2, .ref (mo 0)), (3, .ref (o0))]) hx hb dL_law_1814 hl (k := 6) rfl (by rw [ev_173]; rfl) (by decide) rfl (fun ls hl => ?_)
                      refine lv_goto (tgt := 23) hx hb dL_law_1817 (by decide) ?_
                      exact ih v_173 rP fP rT fT rG_152 fG_153 rL fL rH fH_154 gi di re_155 ti rPT fPT rTT fTT rGT fGT rLT fLT rHT fHT giT diT reT tiT fS rB fB rO fO pl fa cn_156 ro_157 Qh_158 fo_159 al_163 sv_164 sm_165 asd th_166 ho_167 fr txt tl pos od nu su (cl + 1) (sl + 6) _ _ _ (by omega) (by omega) hf hP hS (lv_sub hl [3, 4, 5, 6, 0] rfl)
                    · replace hf := fp_t c_172 hf
                      refine lv_aload_n hx hb dL_law_585 rfl (lv_at hl 5 rfl) ?_
                      refine lv_iconst (v := 0) hx hb dL_law_586 (by decide) ?_
                      obtain ⟨hi_174, hf⟩ := ix_of hf
                      refine va_lald hx hb hK.1 hP 77 1 (get_mid 77 rfl) rfl hi_174 dL_law_587 ?_
                      refine lv_iload hx hb dL_law_588 (lv_at hl 0 rfl) ?_
                      refine lv_i2l (v := r_162.toInt64) hx hb dL_law_590 rfl ?_
                      refine W.lcmp hx hb dL_law_591 ?_
                      refine lv_if_eq (tgt := 597) hx hb dL_law_592 (by decide) (fun c_175 => ?_) (fun c_175 => ?_)
                      · replace hf := fp_t c_175 hf
                        refine lv_goto (tgt := 1814) hx hb dL_law_597 (by decide) ?_
                        obtain ⟨v_176, ev_176⟩ : ∃ y : Int32, y = x4 + (6 : Int32) := ⟨_, rfl⟩
                        replace hf := nm_of ev_176 hf
                        refine lv_iinc (v := v_176) (lv' := [(4, .int v_176), (6, .int r_162), (5, .int r_151), (0, .ref b), (1, .ref (x0)), (2, .ref (mo 0)), (3, .ref (o0))]) hx hb dL_law_1814 hl (k := 6) rfl (by rw [ev_176]; rfl) (by decide) rfl (fun ls hl => ?_)
                        refine lv_goto (tgt := 23) hx hb dL_law_1817 (by decide) ?_
                        exact ih v_176 rP fP rT fT rG_152 fG_153 rL fL rH fH_154 gi di re_155 ti rPT fPT rTT fTT rGT fGT rLT fLT rHT fHT giT diT reT tiT fS rB fB rO fO pl fa cn_156 ro_157 Qh_158 fo_159 al_163 sv_164 sm_165 asd th_166 ho_167 fr txt tl pos od nu su (cl + 1) (sl + 6) _ _ _ (by omega) (by omega) hf hP hS (lv_sub hl [3, 4, 5, 6, 0] rfl)
                      · replace hf := fp_f c_175 hf
                        refine lv_iconst (v := 0) hx hb dL_law_595 (by decide) ?_
                        exact absurd (Option.some.inj hf) (by decide)
                  · replace hf := fp_f c_171 hf
                    refine lv_iconst (v := 0) hx hb dL_law_578 (by decide) ?_
                    exact absurd (Option.some.inj hf) (by decide)
                · replace hf := fp_f c_149 hf
                  by_cases c_177 : v_3 = (6 : Int32)
                  · replace hf := fp_t c_177 hf
                    refine lv_tableIn (off := 560) (tgt := 600) hx hb dL_law_40 (by rw [c_177]; decide) (by rw [c_177]; decide) (by rw [c_177]; rfl) (by decide) ?_
                    refine lv_aload_n hx hb dL_law_600 rfl (lv_at hl 1 rfl) ?_
                    refine lv_aload_n hx hb dL_law_601 rfl (lv_at hl 0 rfl) ?_
                    refine lv_iload hx hb dL_law_602 (lv_at hl 4 rfl) ?_
                    refine lv_iconst (v := 1) hx hb dL_law_604 (by decide) ?_
                    refine lv_iadd hx hb dL_law_605 ?_
                    obtain ⟨hi_178, hf⟩ := ix_of hf
                    refine va_sld hx hb hX hbl hbA hS hi_178 dL_law_606 ?_
                    refine lv_aload_n hx hb dL_law_607 rfl (lv_at hl 0 rfl) ?_
                    refine lv_iload hx hb dL_law_608 (lv_at hl 4 rfl) ?_
                    refine lv_iconst (v := 2) hx hb dL_law_610 (by decide) ?_
                    refine lv_iadd hx hb dL_law_611 ?_
                    obtain ⟨hi_179, hf⟩ := ix_of hf
                    refine va_sld hx hb hX hbl hbA hS hi_179 dL_law_612 ?_
                    refine lv_aload_n hx hb dL_law_613 rfl (lv_at hl 3 rfl) ?_
                    obtain ⟨r_180, fP_181, rG_182, fG_183, rL_184, fL_185, fH_186, di_187, cn_188, ro_189, Qh_190, fo_191, hc_192, hf⟩ := bd12_of hf
                    refine fw_S (v := some (.int r_180)) (As := [.ref (x0), .int (xs (x4 + (1 : Int32)).toNatClampNeg), .int (xs (x4 + (2 : Int32)).toNatClampNeg), .ref (o0)]) (rest := []) (st1 := [.int r_180]) (ws' := ((wLR X x0 hh ht ch tx y hy rP fP_181 rT fT rG_182 fG_183 rL_184 fL_185 rH fH_186 gi di_187 re ti rPT fPT rTT fTT rGT fGT rLT fLT rHT fHT giT diT reT tiT rS fS rB fB rO fO pl fa cn_188 ro_189 Qh_190) ++ (wOut X o0 fo_191) ++ (wMo X mo al sv sm asd th ho fr txt tl pos od nu su))) (nL := 9) ⟨hx, hb, hml, hown, hts⟩ (c_L_cheer l hfl X x0 hh ht ch tx y hy o0 rP fP rT fT rG fG rL fL rH fH gi di re ti rPT fPT rTT fTT rGT fGT rLT fLT rHT fHT giT diT reT tiT rS fS rB fB rO fO pl fa cn ro Qh fo (xs (x4 + (1 : Int32)).toNatClampNeg) (xs (x4 + (2 : Int32)).toNatClampNeg) r_180 fP_181 rG_182 fG_183 rL_184 fL_185 fH_186 di_187 cn_188 ro_189 Qh_190 fo_191 hc_192) (vx_cwSW 4 hts gL_law_L_cheer rfl rfl rfl (by decide +kernel) ⟨Nat.le_of_ble_eq_true rfl, Nat.le_of_ble_eq_true rfl⟩) rfl hl.1 rfl (Nat.le_of_ble_eq_true rfl) dL_law_614 hTS hTZ hK hP (hD0.addr (wLw_fst.trans wLw_fst.symm)) hS hA [0, 1, 2, 3, 4, 5, 6, 7, 8, 9, 10, 11, 12, 13, 14, 15, 16, 17, 18, 19, 20, 21, 22, 23, 24, 25, 26, 27, 28, 29, 30, 31, 32, 33, 34, 35, 36, 37, 38, 39, 40, 41, 42, 43, 44, 45, 46, 47, 48, 49, 50, 51, 52, 53, 54, 55, 56, 57, 58, 59, 60, 61, 62, 63, 64, 65, 66, 67, 68, 69, 70, 71, 72, 73, 74, 75, 76, 77] (by decide +kernel) wC_w wJ_w (wLw_fst.trans wLw_fst.symm) rfl ⟨(by show cl + 1 ≤ 601024; omega), (by show sl + 6 ≤ 7293034; omega)⟩ (fun H locs hP hD hS => ?_)
                    refine lv_istore (lv' := [(5, .int r_180), (0, .ref b), (1, .ref (x0)), (2, .ref (mo 0)), (3, .ref (o0)), (4, .int x4)]) hx hb dL_law_617 hl (by decide) rfl (fun ls hl => ?_)
                    refine lv_aload_n hx hb dL_law_619 rfl (lv_at hl 3 rfl) ?_
                    refine lv_aload_n hx hb dL_law_620 rfl (lv_at hl 1 rfl) ?_
                    refine lv_iload hx hb dL_law_621 (lv_at hl 5 rfl) ?_
                    refine lv_iconst (v := 1) hx hb dL_law_623 (by decide) ?_
                    refine lv_iadd hx hb dL_law_624 ?_
                    obtain ⟨hi_193, hf⟩ := ix_of hf
                    refine va_sld hx hb hX hbl hbA hS hi_193 dL_law_625 ?_
                    refine lv_aload_n hx hb dL_law_626 rfl (lv_at hl 1 rfl) ?_
                    refine lv_iload hx hb dL_law_627 (lv_at hl 5 rfl) ?_
                    refine lv_iconst (v := 2) hx hb dL_law_629 (by decide) ?_
                    refine lv_iadd hx hb dL_law_630 ?_
                    obtain ⟨hi_194, hf⟩ := ix_of hf
                    refine va_sld hx hb hX hbl hbA hS hi_194 dL_law_631 ?_
                    obtain ⟨r_195, al_196, sv_197, sm_198, th_199, hc_200, hf⟩ := bd5_of hf
                    refine fn_VJ (v := some (.int r_195)) (As := [.int (xs (x4 + (1 : Int32)).toNatClampNeg), .int (xs (x4 + (2 : Int32)).toNatClampNeg)]) (rest := []) (st1 := [.int r_195]) (ws' := ((wLR X x0 hh ht ch tx y hy rP fP_181 rT fT rG_182 fG_183 rL_184 fL_185 rH fH_186 gi di_187 re ti rPT fPT rTT fTT rGT fGT rLT fLT rHT fHT giT diT reT tiT rS fS rB fB rO fO pl fa cn_188 ro_189 Qh_190) ++ (wOut X o0 fo_191) ++ (wMo X mo al_196 sv_197 sm_198 asd th_199 ho fr txt tl pos od nu su))) (nL := 9) ⟨hx, hb, hml, hown, hts⟩ (c_X6_cheer l X mo al sv sm asd th ho fr txt tl pos od nu su (xs (x4 + (1 : Int32)).toNatClampNeg) (xs (x4 + (2 : Int32)).toNatClampNeg) r_195 al_196 sv_197 sm_198 th_199 hc_200) (cwV 2 hts gL_law_X6_cheer rfl rfl rfl (by decide +kernel) ⟨Nat.le_of_ble_eq_true rfl, Nat.le_of_ble_eq_true rfl⟩) 6 rfl rfl rfl rfl hl.1 rfl (Nat.le_of_ble_eq_true rfl) dL_law_632 hK hP (hD0.addr (wLw_fst.trans wLw_fst.symm)) hS hA [78, 79, 80, 81, 82, 83, 84, 85] (by decide +kernel) wC_m wJ_m (wLw_fst.trans wLw_fst.symm) rfl ⟨(by show cl + 1 ≤ 601024; omega), (by show sl + 6 ≤ 7293034; omega)⟩ (fun H locs hP hD hS => ?_)
                    refine lv_istore (lv' := [(6, .int r_195), (5, .int r_180), (0, .ref b), (1, .ref (x0)), (2, .ref (mo 0)), (3, .ref (o0)), (4, .int x4)]) hx hb dL_law_635 hl (by decide) rfl (fun ls hl => ?_)
                    refine lv_aload_n hx hb dL_law_637 rfl (lv_at hl 4 rfl) ?_
                    obtain ⟨r_201, hc_202, hf⟩ := bd_of hf
                    refine fn_V (v := some (.int r_201)) (As := []) (rest := []) (st1 := [.int r_201]) (ws' := ((wLR X x0 hh ht ch tx y hy rP fP_181 rT fT rG_182 fG_183 rL_184 fL_185 rH fH_186 gi di_187 re ti rPT fPT rTT fTT rGT fGT rLT fLT rHT fHT giT diT reT tiT rS fS rB fB rO fO pl fa cn_188 ro_189 Qh_190) ++ (wOut X o0 fo_191) ++ (wMo X mo al_196 sv_197 sm_198 asd th_199 ho fr txt tl pos od nu su))) (nL := 9) ⟨hx, hb, hml, hown, hts⟩ (c_X6_thrown l X mo al_196 sv_197 sm_198 asd th_199 ho fr txt tl pos od nu su r_201 hc_202) (cwV 0 hts gL_law_X6_thrown rfl rfl rfl (by decide +kernel) ⟨Nat.le_of_ble_eq_true rfl, Nat.le_of_ble_eq_true rfl⟩) 6 rfl rfl rfl rfl hl.1 rfl (Nat.le_of_ble_eq_true rfl) dL_law_638 hK hP (hD0.addr (wLw_fst.trans wLw_fst.symm)) hS hA [78, 79, 80, 81, 82, 83, 84, 85] (by decide +kernel) wC_m (pt_setid _ _ _ wC_m) rfl ⟨(by show cl + 1 ≤ 601024; omega), (by show sl + 6 ≤ 7293034; omega)⟩ (fun H locs hP hD hS => ?_)
                    refine lv_iload hx hb dL_law_641 (lv_at hl 1 rfl) ?_
                    refine lv_icmp_eq (tgt := 648) hx hb dL_law_643 (by decide) (fun c_203 => ?_) (fun c_203 => ?_)
                    · replace hf := fp_t c_203 hf
                      refine lv_iload hx hb dL_law_648 (lv_at hl 1 rfl) ?_
                      refine lv_if_ne (tgt := 665) hx hb dL_law_650 (by decide) (fun c_204 => ?_) (fun c_204 => ?_)
                      · replace hf := fp_f c_204 hf
                        refine lv_goto (tgt := 1814) hx hb dL_law_665 (by decide) ?_
                        obtain ⟨v_205, ev_205⟩ : ∃ y : Int32, y = x4 + (6 : Int32) := ⟨_, rfl⟩
                        replace hf := nm_of ev_205 hf
                        refine lv_iinc (v := v_205) (lv' := [(4, .int v_205), (6, .int r_195), (5, .int r_180), (0, .ref b), (1, .ref (x0)), (2, .ref (mo 0)), (3, .ref (o0))]) hx hb dL_law_1814 hl (k := 6) rfl (by rw [ev_205]; rfl) (by decide) rfl (fun ls hl => ?_)
                        refine lv_goto (tgt := 23) hx hb dL_law_1817 (by decide) ?_
                        exact ih v_205 rP fP_181 rT fT rG_182 fG_183 rL_184 fL_185 rH fH_186 gi di_187 re ti rPT fPT rTT fTT rGT fGT rLT fLT rHT fHT giT diT reT tiT fS rB fB rO fO pl fa cn_188 ro_189 Qh_190 fo_191 al_196 sv_197 sm_198 asd th_199 ho fr txt tl pos od nu su (cl + 1) (sl + 6) _ _ _ (by omega) (by omega) hf hP hS (lv_sub hl [3, 4, 5, 6, 0] rfl)
                      · replace hf := fp_t c_204 hf
                        refine lv_aload_n hx hb dL_law_653 rfl (lv_at hl 5 rfl) ?_
                        refine lv_iconst (v := 0) hx hb dL_law_654 (by decide) ?_
                        obtain ⟨hi_206, hf⟩ := ix_of hf
                        refine va_lald hx hb hK.1 hP 77 1 (get_mid 77 rfl) rfl hi_206 dL_law_655 ?_
                        refine lv_iload hx hb dL_law_656 (lv_at hl 0 rfl) ?_
                        refine lv_i2l (v := r_195.toInt64) hx hb dL_law_658 rfl ?_
                        refine W.lcmp hx hb dL_law_659 ?_
                        refine lv_if_eq (tgt := 665) hx hb dL_law_660 (by decide) (fun c_207 => ?_) (fun c_207 => ?_)
                        · replace hf := fp_t c_207 hf
                          refine lv_goto (tgt := 1814) hx hb dL_law_665 (by decide) ?_
                          obtain ⟨v_208, ev_208⟩ : ∃ y : Int32, y = x4 + (6 : Int32) := ⟨_, rfl⟩
                          replace hf := nm_of ev_208 hf
                          refine lv_iinc (v := v_208) (lv' := [(4, .int v_208), (6, .int r_195), (5, .int r_180), (0, .ref b), (1, .ref (x0)), (2, .ref (mo 0)), (3, .ref (o0))]) hx hb dL_law_1814 hl (k := 6) rfl (by rw [ev_208]; rfl) (by decide) rfl (fun ls hl => ?_)
                          refine lv_goto (tgt := 23) hx hb dL_law_1817 (by decide) ?_
                          exact ih v_208 rP fP_181 rT fT rG_182 fG_183 rL_184 fL_185 rH fH_186 gi di_187 re ti rPT fPT rTT fTT rGT fGT rLT fLT rHT fHT giT diT reT tiT fS rB fB rO fO pl fa cn_188 ro_189 Qh_190 fo_191 al_196 sv_197 sm_198 asd th_199 ho fr txt tl pos od nu su (cl + 1) (sl + 6) _ _ _ (by omega) (by omega) hf hP hS (lv_sub hl [3, 4, 5, 6, 0] rfl)
                        · replace hf := fp_f c_207 hf
                          refine lv_iconst (v := 0) hx hb dL_law_663 (by decide) ?_
                          exact absurd (Option.some.inj hf) (by decide)
                    · replace hf := fp_f c_203 hf
                      refine lv_iconst (v := 0) hx hb dL_law_646 (by decide) ?_
                      exact absurd (Option.some.inj hf) (by decide)
                  · replace hf := fp_f c_177 hf
                    by_cases c_209 : v_3 = (7 : Int32)
                    · replace hf := fp_t c_209 hf
                      refine lv_tableIn (off := 628) (tgt := 668) hx hb dL_law_40 (by rw [c_209]; decide) (by rw [c_209]; decide) (by rw [c_209]; rfl) (by decide) ?_
                      refine lv_aload_n hx hb dL_law_668 rfl (lv_at hl 1 rfl) ?_
                      refine lv_aload_n hx hb dL_law_669 rfl (lv_at hl 0 rfl) ?_
                      refine lv_iload hx hb dL_law_670 (lv_at hl 4 rfl) ?_
                      refine lv_iconst (v := 1) hx hb dL_law_672 (by decide) ?_
                      refine lv_iadd hx hb dL_law_673 ?_
                      obtain ⟨hi_210, hf⟩ := ix_of hf
                      refine va_sld hx hb hX hbl hbA hS hi_210 dL_law_674 ?_
                      refine lv_aload_n hx hb dL_law_675 rfl (lv_at hl 3 rfl) ?_
                      obtain ⟨r_211, fP_212, rG_213, fG_214, rL_215, fL_216, fH_217, di_218, ti_219, cn_220, ro_221, Qh_222, fo_223, hc_224, hf⟩ := bd13_of hf
                      refine fw_S (v := some (.int r_211)) (As := [.ref (x0), .int (xs (x4 + (1 : Int32)).toNatClampNeg), .ref (o0)]) (rest := []) (st1 := [.int r_211]) (ws' := ((wLR X x0 hh ht ch tx y hy rP fP_212 rT fT rG_213 fG_214 rL_215 fL_216 rH fH_217 gi di_218 re ti_219 rPT fPT rTT fTT rGT fGT rLT fLT rHT fHT giT diT reT tiT rS fS rB fB rO fO pl fa cn_220 ro_221 Qh_222) ++ (wOut X o0 fo_223) ++ (wMo X mo al sv sm asd th ho fr txt tl pos od nu su))) (nL := 9) ⟨hx, hb, hml, hown, hts⟩ (c_L_pass l hfl X x0 hh ht ch tx y hy o0 rP fP rT fT rG fG rL fL rH fH gi di re ti rPT fPT rTT fTT rGT fGT rLT fLT rHT fHT giT diT reT tiT rS fS rB fB rO fO pl fa cn ro Qh fo (xs (x4 + (1 : Int32)).toNatClampNeg) r_211 fP_212 rG_213 fG_214 rL_215 fL_216 fH_217 di_218 ti_219 cn_220 ro_221 Qh_222 fo_223 hc_224) (vx_cwSW 3 hts gL_law_L_pass rfl rfl rfl (by decide +kernel) ⟨Nat.le_of_ble_eq_true rfl, Nat.le_of_ble_eq_true rfl⟩) rfl hl.1 rfl (Nat.le_of_ble_eq_true rfl) dL_law_676 hTS hTZ hK hP (hD0.addr (wLw_fst.trans wLw_fst.symm)) hS hA [0, 1, 2, 3, 4, 5, 6, 7, 8, 9, 10, 11, 12, 13, 14, 15, 16, 17, 18, 19, 20, 21, 22, 23, 24, 25, 26, 27, 28, 29, 30, 31, 32, 33, 34, 35, 36, 37, 38, 39, 40, 41, 42, 43, 44, 45, 46, 47, 48, 49, 50, 51, 52, 53, 54, 55, 56, 57, 58, 59, 60, 61, 62, 63, 64, 65, 66, 67, 68, 69, 70, 71, 72, 73, 74, 75, 76, 77] (by decide +kernel) wC_w wJ_w (wLw_fst.trans wLw_fst.symm) rfl ⟨(by show cl + 1 ≤ 601024; omega), (by show sl + 6 ≤ 7293034; omega)⟩ (fun H locs hP hD hS => ?_)
                      refine lv_istore (lv' := [(5, .int r_211), (0, .ref b), (1, .ref (x0)), (2, .ref (mo 0)), (3, .ref (o0)), (4, .int x4)]) hx hb dL_law_679 hl (by decide) rfl (fun ls hl => ?_)
                      refine lv_aload_n hx hb dL_law_681 rfl (lv_at hl 3 rfl) ?_
                      refine lv_aload_n hx hb dL_law_682 rfl (lv_at hl 1 rfl) ?_
                      refine lv_iload hx hb dL_law_683 (lv_at hl 5 rfl) ?_
                      refine lv_iconst (v := 1) hx hb dL_law_685 (by decide) ?_
                      refine lv_iadd hx hb dL_law_686 ?_
                      obtain ⟨hi_225, hf⟩ := ix_of hf
                      refine va_sld hx hb hX hbl hbA hS hi_225 dL_law_687 ?_
                      obtain ⟨r_226, al_227, sv_228, sm_229, th_230, hc_231, hf⟩ := bd5_of hf
                      refine fn_VJ (v := some (.int r_226)) (As := [.int (xs (x4 + (1 : Int32)).toNatClampNeg)]) (rest := []) (st1 := [.int r_226]) (ws' := ((wLR X x0 hh ht ch tx y hy rP fP_212 rT fT rG_213 fG_214 rL_215 fL_216 rH fH_217 gi di_218 re ti_219 rPT fPT rTT fTT rGT fGT rLT fLT rHT fHT giT diT reT tiT rS fS rB fB rO fO pl fa cn_220 ro_221 Qh_222) ++ (wOut X o0 fo_223) ++ (wMo X mo al_227 sv_228 sm_229 asd th_230 ho fr txt tl pos od nu su))) (nL := 9) ⟨hx, hb, hml, hown, hts⟩ (c_X6_pass l X mo al sv sm asd th ho fr txt tl pos od nu su (xs (x4 + (1 : Int32)).toNatClampNeg) r_226 al_227 sv_228 sm_229 th_230 hc_231) (cwV 1 hts gL_law_X6_pass rfl rfl rfl (by decide +kernel) ⟨Nat.le_of_ble_eq_true rfl, Nat.le_of_ble_eq_true rfl⟩) 6 rfl rfl rfl rfl hl.1 rfl (Nat.le_of_ble_eq_true rfl) dL_law_688 hK hP (hD0.addr (wLw_fst.trans wLw_fst.symm)) hS hA [78, 79, 80, 81, 82, 83, 84, 85] (by decide +kernel) wC_m wJ_m (wLw_fst.trans wLw_fst.symm) rfl ⟨(by show cl + 1 ≤ 601024; omega), (by show sl + 6 ≤ 7293034; omega)⟩ (fun H locs hP hD hS => ?_)
                      refine lv_istore (lv' := [(6, .int r_226), (5, .int r_211), (0, .ref b), (1, .ref (x0)), (2, .ref (mo 0)), (3, .ref (o0)), (4, .int x4)]) hx hb dL_law_691 hl (by decide) rfl (fun ls hl => ?_)
                      refine lv_aload_n hx hb dL_law_693 rfl (lv_at hl 4 rfl) ?_
                      obtain ⟨r_232, hc_233, hf⟩ := bd_of hf
                      refine fn_V (v := some (.int r_232)) (As := []) (rest := []) (st1 := [.int r_232]) (ws' := ((wLR X x0 hh ht ch tx y hy rP fP_212 rT fT rG_213 fG_214 rL_215 fL_216 rH fH_217 gi di_218 re ti_219 rPT fPT rTT fTT rGT fGT rLT fLT rHT fHT giT diT reT tiT rS fS rB fB rO fO pl fa cn_220 ro_221 Qh_222) ++ (wOut X o0 fo_223) ++ (wMo X mo al_227 sv_228 sm_229 asd th_230 ho fr txt tl pos od nu su))) (nL := 9) ⟨hx, hb, hml, hown, hts⟩ (c_X6_thrown l X mo al_227 sv_228 sm_229 asd th_230 ho fr txt tl pos od nu su r_232 hc_233) (cwV 0 hts gL_law_X6_thrown rfl rfl rfl (by decide +kernel) ⟨Nat.le_of_ble_eq_true rfl, Nat.le_of_ble_eq_true rfl⟩) 6 rfl rfl rfl rfl hl.1 rfl (Nat.le_of_ble_eq_true rfl) dL_law_694 hK hP (hD0.addr (wLw_fst.trans wLw_fst.symm)) hS hA [78, 79, 80, 81, 82, 83, 84, 85] (by decide +kernel) wC_m (pt_setid _ _ _ wC_m) rfl ⟨(by show cl + 1 ≤ 601024; omega), (by show sl + 6 ≤ 7293034; omega)⟩ (fun H locs hP hD hS => ?_)
                      refine lv_iload hx hb dL_law_697 (lv_at hl 1 rfl) ?_
                      refine lv_icmp_eq (tgt := 704) hx hb dL_law_699 (by decide) (fun c_234 => ?_) (fun c_234 => ?_)
                      · replace hf := fp_t c_234 hf
                        refine lv_iload hx hb dL_law_704 (lv_at hl 1 rfl) ?_
                        refine lv_if_ne (tgt := 721) hx hb dL_law_706 (by decide) (fun c_235 => ?_) (fun c_235 => ?_)
                        · replace hf := fp_f c_235 hf
                          refine lv_goto (tgt := 1814) hx hb dL_law_721 (by decide) ?_
                          obtain ⟨v_236, ev_236⟩ : ∃ y : Int32, y = x4 + (6 : Int32) := ⟨_, rfl⟩
                          replace hf := nm_of ev_236 hf
                          refine lv_iinc (v := v_236) (lv' := [(4, .int v_236), (6, .int r_226), (5, .int r_211), (0, .ref b), (1, .ref (x0)), (2, .ref (mo 0)), (3, .ref (o0))]) hx hb dL_law_1814 hl (k := 6) rfl (by rw [ev_236]; rfl) (by decide) rfl (fun ls hl => ?_)
                          refine lv_goto (tgt := 23) hx hb dL_law_1817 (by decide) ?_
                          exact ih v_236 rP fP_212 rT fT rG_213 fG_214 rL_215 fL_216 rH fH_217 gi di_218 re ti_219 rPT fPT rTT fTT rGT fGT rLT fLT rHT fHT giT diT reT tiT fS rB fB rO fO pl fa cn_220 ro_221 Qh_222 fo_223 al_227 sv_228 sm_229 asd th_230 ho fr txt tl pos od nu su (cl + 1) (sl + 6) _ _ _ (by omega) (by omega) hf hP hS (lv_sub hl [3, 4, 5, 6, 0] rfl)
                        · replace hf := fp_t c_235 hf
                          refine lv_aload_n hx hb dL_law_709 rfl (lv_at hl 5 rfl) ?_
                          refine lv_iconst (v := 0) hx hb dL_law_710 (by decide) ?_
                          obtain ⟨hi_237, hf⟩ := ix_of hf
                          refine va_lald hx hb hK.1 hP 77 1 (get_mid 77 rfl) rfl hi_237 dL_law_711 ?_
                          refine lv_iload hx hb dL_law_712 (lv_at hl 0 rfl) ?_
                          refine lv_i2l (v := r_226.toInt64) hx hb dL_law_714 rfl ?_
                          refine W.lcmp hx hb dL_law_715 ?_
                          refine lv_if_eq (tgt := 721) hx hb dL_law_716 (by decide) (fun c_238 => ?_) (fun c_238 => ?_)
                          · replace hf := fp_t c_238 hf
                            refine lv_goto (tgt := 1814) hx hb dL_law_721 (by decide) ?_
                            obtain ⟨v_239, ev_239⟩ : ∃ y : Int32, y = x4 + (6 : Int32) := ⟨_, rfl⟩
                            replace hf := nm_of ev_239 hf
                            refine lv_iinc (v := v_239) (lv' := [(4, .int v_239), (6, .int r_226), (5, .int r_211), (0, .ref b), (1, .ref (x0)), (2, .ref (mo 0)), (3, .ref (o0))]) hx hb dL_law_1814 hl (k := 6) rfl (by rw [ev_239]; rfl) (by decide) rfl (fun ls hl => ?_)
                            refine lv_goto (tgt := 23) hx hb dL_law_1817 (by decide) ?_
                            exact ih v_239 rP fP_212 rT fT rG_213 fG_214 rL_215 fL_216 rH fH_217 gi di_218 re ti_219 rPT fPT rTT fTT rGT fGT rLT fLT rHT fHT giT diT reT tiT fS rB fB rO fO pl fa cn_220 ro_221 Qh_222 fo_223 al_227 sv_228 sm_229 asd th_230 ho fr txt tl pos od nu su (cl + 1) (sl + 6) _ _ _ (by omega) (by omega) hf hP hS (lv_sub hl [3, 4, 5, 6, 0] rfl)
                          · replace hf := fp_f c_238 hf
                            refine lv_iconst (v := 0) hx hb dL_law_719 (by decide) ?_
                            exact absurd (Option.some.inj hf) (by decide)
                      · replace hf := fp_f c_234 hf
                        refine lv_iconst (v := 0) hx hb dL_law_702 (by decide) ?_
                        exact absurd (Option.some.inj hf) (by decide)
                    · replace hf := fp_f c_209 hf
                      by_cases c_240 : v_3 = (8 : Int32)
                      · replace hf := fp_t c_240 hf
                        refine lv_tableIn (off := 684) (tgt := 724) hx hb dL_law_40 (by rw [c_240]; decide) (by rw [c_240]; decide) (by rw [c_240]; rfl) (by decide) ?_
                        refine lv_aload_n hx hb dL_law_724 rfl (lv_at hl 1 rfl) ?_
                        refine lv_aload_n hx hb dL_law_725 rfl (lv_at hl 0 rfl) ?_
                        refine lv_iload hx hb dL_law_726 (lv_at hl 4 rfl) ?_
                        refine lv_iconst (v := 1) hx hb dL_law_728 (by decide) ?_
                        refine lv_iadd hx hb dL_law_729 ?_
                        obtain ⟨hi_241, hf⟩ := ix_of hf
                        refine va_sld hx hb hX hbl hbA hS hi_241 dL_law_730 ?_
                        refine lv_aload_n hx hb dL_law_731 rfl (lv_at hl 0 rfl) ?_
                        refine lv_iload hx hb dL_law_732 (lv_at hl 4 rfl) ?_
                        refine lv_iconst (v := 2) hx hb dL_law_734 (by decide) ?_
                        refine lv_iadd hx hb dL_law_735 ?_
                        obtain ⟨hi_242, hf⟩ := ix_of hf
                        refine va_sld hx hb hX hbl hbA hS hi_242 dL_law_736 ?_
                        refine lv_aload_n hx hb dL_law_737 rfl (lv_at hl 3 rfl) ?_
                        obtain ⟨r_243, fo_244, hc_245, hf⟩ := bd2_of hf
                        refine fw_S (v := some (.int r_243)) (As := [.ref (x0), .int (xs (x4 + (1 : Int32)).toNatClampNeg), .int (xs (x4 + (2 : Int32)).toNatClampNeg), .ref (o0)]) (rest := []) (st1 := [.int r_243]) (ws' := ((wLR X x0 hh ht ch tx y hy rP fP rT fT rG fG rL fL rH fH gi di re ti rPT fPT rTT fTT rGT fGT rLT fLT rHT fHT giT diT reT tiT rS fS rB fB rO fO pl fa cn ro Qh) ++ (wOut X o0 fo_244) ++ (wMo X mo al sv sm asd th ho fr txt tl pos od nu su))) (nL := 9) ⟨hx, hb, hml, hown, hts⟩ (c_L_held l hfl X x0 hh ht ch tx y hy o0 rP fP rT fT rG fG rL fL rH fH gi di re ti rPT fPT rTT fTT rGT fGT rLT fLT rHT fHT giT diT reT tiT rS fS rB fB rO fO pl fa cn ro Qh fo (xs (x4 + (1 : Int32)).toNatClampNeg) (xs (x4 + (2 : Int32)).toNatClampNeg) r_243 fo_244 hc_245) (vx_cwSW 4 hts gL_law_L_held rfl rfl rfl (by decide +kernel) ⟨Nat.le_of_ble_eq_true rfl, Nat.le_of_ble_eq_true rfl⟩) rfl hl.1 rfl (Nat.le_of_ble_eq_true rfl) dL_law_738 hTS hTZ hK hP (hD0.addr (wLw_fst.trans wLw_fst.symm)) hS hA [0, 1, 2, 3, 4, 5, 6, 7, 8, 9, 10, 11, 12, 13, 14, 15, 16, 17, 18, 19, 20, 21, 22, 23, 24, 25, 26, 27, 28, 29, 30, 31, 32, 33, 34, 35, 36, 37, 38, 39, 40, 41, 42, 43, 44, 45, 46, 47, 48, 49, 50, 51, 52, 53, 54, 55, 56, 57, 58, 59, 60, 61, 62, 63, 64, 65, 66, 67, 68, 69, 70, 71, 72, 73, 74, 75, 76, 77] (by decide +kernel) wC_w wJ_w (wLw_fst.trans wLw_fst.symm) rfl ⟨(by show cl + 1 ≤ 601024; omega), (by show sl + 6 ≤ 7293034; omega)⟩ (fun H locs hP hD hS => ?_)
                        refine lv_istore (lv' := [(5, .int r_243), (0, .ref b), (1, .ref (x0)), (2, .ref (mo 0)), (3, .ref (o0)), (4, .int x4)]) hx hb dL_law_741 hl (by decide) rfl (fun ls hl => ?_)
                        refine lv_aload_n hx hb dL_law_743 rfl (lv_at hl 3 rfl) ?_
                        refine lv_aload_n hx hb dL_law_744 rfl (lv_at hl 1 rfl) ?_
                        refine lv_iload hx hb dL_law_745 (lv_at hl 5 rfl) ?_
                        refine lv_iconst (v := 1) hx hb dL_law_747 (by decide) ?_
                        refine lv_iadd hx hb dL_law_748 ?_
                        obtain ⟨hi_246, hf⟩ := ix_of hf
                        refine va_sld hx hb hX hbl hbA hS hi_246 dL_law_749 ?_
                        refine lv_aload_n hx hb dL_law_750 rfl (lv_at hl 1 rfl) ?_
                        refine lv_iload hx hb dL_law_751 (lv_at hl 5 rfl) ?_
                        refine lv_iconst (v := 2) hx hb dL_law_753 (by decide) ?_
                        refine lv_iadd hx hb dL_law_754 ?_
                        obtain ⟨hi_247, hf⟩ := ix_of hf
                        refine va_sld hx hb hX hbl hbA hS hi_247 dL_law_755 ?_
                        obtain ⟨r_248, th_249, ho_250, hc_251, hf⟩ := bd3_of hf
                        refine fn_VJ (v := some (.int r_248)) (As := [.int (xs (x4 + (1 : Int32)).toNatClampNeg), .int (xs (x4 + (2 : Int32)).toNatClampNeg)]) (rest := []) (st1 := [.int r_248]) (ws' := ((wLR X x0 hh ht ch tx y hy rP fP rT fT rG fG rL fL rH fH gi di re ti rPT fPT rTT fTT rGT fGT rLT fLT rHT fHT giT diT reT tiT rS fS rB fB rO fO pl fa cn ro Qh) ++ (wOut X o0 fo_244) ++ (wMo X mo al sv sm asd th_249 ho_250 fr txt tl pos od nu su))) (nL := 9) ⟨hx, hb, hml, hown, hts⟩ (c_X6_held l X mo al sv sm asd th ho fr txt tl pos od nu su (xs (x4 + (1 : Int32)).toNatClampNeg) (xs (x4 + (2 : Int32)).toNatClampNeg) r_248 th_249 ho_250 hc_251) (cwV 2 hts gL_law_X6_held rfl rfl rfl (by decide +kernel) ⟨Nat.le_of_ble_eq_true rfl, Nat.le_of_ble_eq_true rfl⟩) 6 rfl rfl rfl rfl hl.1 rfl (Nat.le_of_ble_eq_true rfl) dL_law_756 hK hP (hD0.addr (wLw_fst.trans wLw_fst.symm)) hS hA [78, 79, 80, 81, 82, 83, 84, 85] (by decide +kernel) wC_m wJ_m (wLw_fst.trans wLw_fst.symm) rfl ⟨(by show cl + 1 ≤ 601024; omega), (by show sl + 6 ≤ 7293034; omega)⟩ (fun H locs hP hD hS => ?_)
                        refine lv_istore (lv' := [(6, .int r_248), (5, .int r_243), (0, .ref b), (1, .ref (x0)), (2, .ref (mo 0)), (3, .ref (o0)), (4, .int x4)]) hx hb dL_law_759 hl (by decide) rfl (fun ls hl => ?_)
                        refine lv_aload_n hx hb dL_law_761 rfl (lv_at hl 4 rfl) ?_
                        obtain ⟨r_252, hc_253, hf⟩ := bd_of hf
                        refine fn_V (v := some (.int r_252)) (As := []) (rest := []) (st1 := [.int r_252]) (ws' := ((wLR X x0 hh ht ch tx y hy rP fP rT fT rG fG rL fL rH fH gi di re ti rPT fPT rTT fTT rGT fGT rLT fLT rHT fHT giT diT reT tiT rS fS rB fB rO fO pl fa cn ro Qh) ++ (wOut X o0 fo_244) ++ (wMo X mo al sv sm asd th_249 ho_250 fr txt tl pos od nu su))) (nL := 9) ⟨hx, hb, hml, hown, hts⟩ (c_X6_thrown l X mo al sv sm asd th_249 ho_250 fr txt tl pos od nu su r_252 hc_253) (cwV 0 hts gL_law_X6_thrown rfl rfl rfl (by decide +kernel) ⟨Nat.le_of_ble_eq_true rfl, Nat.le_of_ble_eq_true rfl⟩) 6 rfl rfl rfl rfl hl.1 rfl (Nat.le_of_ble_eq_true rfl) dL_law_762 hK hP (hD0.addr (wLw_fst.trans wLw_fst.symm)) hS hA [78, 79, 80, 81, 82, 83, 84, 85] (by decide +kernel) wC_m (pt_setid _ _ _ wC_m) rfl ⟨(by show cl + 1 ≤ 601024; omega), (by show sl + 6 ≤ 7293034; omega)⟩ (fun H locs hP hD hS => ?_)
                        refine lv_iload hx hb dL_law_765 (lv_at hl 1 rfl) ?_
                        refine lv_icmp_eq (tgt := 772) hx hb dL_law_767 (by decide) (fun c_254 => ?_) (fun c_254 => ?_)
                        · replace hf := fp_t c_254 hf
                          refine lv_iload hx hb dL_law_772 (lv_at hl 1 rfl) ?_
                          refine lv_if_ne (tgt := 789) hx hb dL_law_774 (by decide) (fun c_255 => ?_) (fun c_255 => ?_)
                          · replace hf := fp_f c_255 hf
                            refine lv_goto (tgt := 1814) hx hb dL_law_789 (by decide) ?_
                            obtain ⟨v_256, ev_256⟩ : ∃ y : Int32, y = x4 + (6 : Int32) := ⟨_, rfl⟩
                            replace hf := nm_of ev_256 hf
                            refine lv_iinc (v := v_256) (lv' := [(4, .int v_256), (6, .int r_248), (5, .int r_243), (0, .ref b), (1, .ref (x0)), (2, .ref (mo 0)), (3, .ref (o0))]) hx hb dL_law_1814 hl (k := 6) rfl (by rw [ev_256]; rfl) (by decide) rfl (fun ls hl => ?_)
                            refine lv_goto (tgt := 23) hx hb dL_law_1817 (by decide) ?_
                            exact ih v_256 rP fP rT fT rG fG rL fL rH fH gi di re ti rPT fPT rTT fTT rGT fGT rLT fLT rHT fHT giT diT reT tiT fS rB fB rO fO pl fa cn ro Qh fo_244 al sv sm asd th_249 ho_250 fr txt tl pos od nu su (cl + 1) (sl + 6) _ _ _ (by omega) (by omega) hf hP hS (lv_sub hl [3, 4, 5, 6, 0] rfl)
                          · replace hf := fp_t c_255 hf
                            refine lv_aload_n hx hb dL_law_777 rfl (lv_at hl 5 rfl) ?_
                            refine lv_iconst (v := 0) hx hb dL_law_778 (by decide) ?_
                            obtain ⟨hi_257, hf⟩ := ix_of hf
                            refine va_lald hx hb hK.1 hP 77 1 (get_mid 77 rfl) rfl hi_257 dL_law_779 ?_
                            refine lv_iload hx hb dL_law_780 (lv_at hl 0 rfl) ?_
                            refine lv_i2l (v := r_248.toInt64) hx hb dL_law_782 rfl ?_
                            refine W.lcmp hx hb dL_law_783 ?_
                            refine lv_if_eq (tgt := 789) hx hb dL_law_784 (by decide) (fun c_258 => ?_) (fun c_258 => ?_)
                            · replace hf := fp_t c_258 hf
                              refine lv_goto (tgt := 1814) hx hb dL_law_789 (by decide) ?_
                              obtain ⟨v_259, ev_259⟩ : ∃ y : Int32, y = x4 + (6 : Int32) := ⟨_, rfl⟩
                              replace hf := nm_of ev_259 hf
                              refine lv_iinc (v := v_259) (lv' := [(4, .int v_259), (6, .int r_248), (5, .int r_243), (0, .ref b), (1, .ref (x0)), (2, .ref (mo 0)), (3, .ref (o0))]) hx hb dL_law_1814 hl (k := 6) rfl (by rw [ev_259]; rfl) (by decide) rfl (fun ls hl => ?_)
                              refine lv_goto (tgt := 23) hx hb dL_law_1817 (by decide) ?_
                              exact ih v_259 rP fP rT fT rG fG rL fL rH fH gi di re ti rPT fPT rTT fTT rGT fGT rLT fLT rHT fHT giT diT reT tiT fS rB fB rO fO pl fa cn ro Qh fo_244 al sv sm asd th_249 ho_250 fr txt tl pos od nu su (cl + 1) (sl + 6) _ _ _ (by omega) (by omega) hf hP hS (lv_sub hl [3, 4, 5, 6, 0] rfl)
                            · replace hf := fp_f c_258 hf
                              refine lv_iconst (v := 0) hx hb dL_law_787 (by decide) ?_
                              exact absurd (Option.some.inj hf) (by decide)
                        · replace hf := fp_f c_254 hf
                          refine lv_iconst (v := 0) hx hb dL_law_770 (by decide) ?_
                          exact absurd (Option.some.inj hf) (by decide)
                      · replace hf := fp_f c_240 hf
                        by_cases c_260 : v_3 = (9 : Int32)
                        · replace hf := fp_t c_260 hf
                          refine lv_tableIn (off := 752) (tgt := 792) hx hb dL_law_40 (by rw [c_260]; decide) (by rw [c_260]; decide) (by rw [c_260]; rfl) (by decide) ?_
                          refine lv_aload_n hx hb dL_law_792 rfl (lv_at hl 1 rfl) ?_
                          refine lv_aload_n hx hb dL_law_793 rfl (lv_at hl 0 rfl) ?_
                          refine lv_iload hx hb dL_law_794 (lv_at hl 4 rfl) ?_
                          refine lv_iconst (v := 1) hx hb dL_law_796 (by decide) ?_
                          refine lv_iadd hx hb dL_law_797 ?_
                          obtain ⟨hi_261, hf⟩ := ix_of hf
                          refine va_sld hx hb hX hbl hbA hS hi_261 dL_law_798 ?_
                          refine lv_aload_n hx hb dL_law_799 rfl (lv_at hl 0 rfl) ?_
                          refine lv_iload hx hb dL_law_800 (lv_at hl 4 rfl) ?_
                          refine lv_iconst (v := 2) hx hb dL_law_802 (by decide) ?_
                          refine lv_iadd hx hb dL_law_803 ?_
                          obtain ⟨hi_262, hf⟩ := ix_of hf
                          refine va_sld hx hb hX hbl hbA hS hi_262 dL_law_804 ?_
                          refine lv_aload_n hx hb dL_law_805 rfl (lv_at hl 3 rfl) ?_
                          obtain ⟨r_263, fo_264, hc_265, hf⟩ := bd2_of hf
                          refine fw_S (v := some (.int r_263)) (As := [.ref (x0), .int (xs (x4 + (1 : Int32)).toNatClampNeg), .int (xs (x4 + (2 : Int32)).toNatClampNeg), .ref (o0)]) (rest := []) (st1 := [.int r_263]) (ws' := ((wLR X x0 hh ht ch tx y hy rP fP rT fT rG fG rL fL rH fH gi di re ti rPT fPT rTT fTT rGT fGT rLT fLT rHT fHT giT diT reT tiT rS fS rB fB rO fO pl fa cn ro Qh) ++ (wOut X o0 fo_264) ++ (wMo X mo al sv sm asd th ho fr txt tl pos od nu su))) (nL := 9) ⟨hx, hb, hml, hown, hts⟩ (c_L_person l hfl X x0 hh ht ch tx y hy o0 rP fP rT fT rG fG rL fL rH fH gi di re ti rPT fPT rTT fTT rGT fGT rLT fLT rHT fHT giT diT reT tiT rS fS rB fB rO fO pl fa cn ro Qh fo (xs (x4 + (1 : Int32)).toNatClampNeg) (xs (x4 + (2 : Int32)).toNatClampNeg) r_263 fo_264 hc_265) (vx_cwSW 4 hts gL_law_L_person rfl rfl rfl (by decide +kernel) ⟨Nat.le_of_ble_eq_true rfl, Nat.le_of_ble_eq_true rfl⟩) rfl hl.1 rfl (Nat.le_of_ble_eq_true rfl) dL_law_806 hTS hTZ hK hP (hD0.addr (wLw_fst.trans wLw_fst.symm)) hS hA [0, 1, 2, 3, 4, 5, 6, 7, 8, 9, 10, 11, 12, 13, 14, 15, 16, 17, 18, 19, 20, 21, 22, 23, 24, 25, 26, 27, 28, 29, 30, 31, 32, 33, 34, 35, 36, 37, 38, 39, 40, 41, 42, 43, 44, 45, 46, 47, 48, 49, 50, 51, 52, 53, 54, 55, 56, 57, 58, 59, 60, 61, 62, 63, 64, 65, 66, 67, 68, 69, 70, 71, 72, 73, 74, 75, 76, 77] (by decide +kernel) wC_w wJ_w (wLw_fst.trans wLw_fst.symm) rfl ⟨(by show cl + 1 ≤ 601024; omega), (by show sl + 6 ≤ 7293034; omega)⟩ (fun H locs hP hD hS => ?_)
                          refine lv_istore (lv' := [(5, .int r_263), (0, .ref b), (1, .ref (x0)), (2, .ref (mo 0)), (3, .ref (o0)), (4, .int x4)]) hx hb dL_law_809 hl (by decide) rfl (fun ls hl => ?_)
                          refine lv_aload_n hx hb dL_law_811 rfl (lv_at hl 3 rfl) ?_
                          refine lv_aload_n hx hb dL_law_812 rfl (lv_at hl 1 rfl) ?_
                          refine lv_iload hx hb dL_law_813 (lv_at hl 5 rfl) ?_
                          refine lv_iconst (v := 1) hx hb dL_law_815 (by decide) ?_
                          refine lv_iadd hx hb dL_law_816 ?_
                          obtain ⟨hi_266, hf⟩ := ix_of hf
                          refine va_sld hx hb hX hbl hbA hS hi_266 dL_law_817 ?_
                          refine lv_aload_n hx hb dL_law_818 rfl (lv_at hl 1 rfl) ?_
                          refine lv_iload hx hb dL_law_819 (lv_at hl 5 rfl) ?_
                          refine lv_iconst (v := 2) hx hb dL_law_821 (by decide) ?_
                          refine lv_iadd hx hb dL_law_822 ?_
                          obtain ⟨hi_267, hf⟩ := ix_of hf
                          refine va_sld hx hb hX hbl hbA hS hi_267 dL_law_823 ?_
                          obtain ⟨r_268, th_269, ho_270, hc_271, hf⟩ := bd3_of hf
                          refine fn_VJ (v := some (.int r_268)) (As := [.int (xs (x4 + (1 : Int32)).toNatClampNeg), .int (xs (x4 + (2 : Int32)).toNatClampNeg)]) (rest := []) (st1 := [.int r_268]) (ws' := ((wLR X x0 hh ht ch tx y hy rP fP rT fT rG fG rL fL rH fH gi di re ti rPT fPT rTT fTT rGT fGT rLT fLT rHT fHT giT diT reT tiT rS fS rB fB rO fO pl fa cn ro Qh) ++ (wOut X o0 fo_264) ++ (wMo X mo al sv sm asd th_269 ho_270 fr txt tl pos od nu su))) (nL := 9) ⟨hx, hb, hml, hown, hts⟩ (c_X6_person l X mo al sv sm asd th ho fr txt tl pos od nu su (xs (x4 + (1 : Int32)).toNatClampNeg) (xs (x4 + (2 : Int32)).toNatClampNeg) r_268 th_269 ho_270 hc_271) (cwV 2 hts gL_law_X6_person rfl rfl rfl (by decide +kernel) ⟨Nat.le_of_ble_eq_true rfl, Nat.le_of_ble_eq_true rfl⟩) 6 rfl rfl rfl rfl hl.1 rfl (Nat.le_of_ble_eq_true rfl) dL_law_824 hK hP (hD0.addr (wLw_fst.trans wLw_fst.symm)) hS hA [78, 79, 80, 81, 82, 83, 84, 85] (by decide +kernel) wC_m wJ_m (wLw_fst.trans wLw_fst.symm) rfl ⟨(by show cl + 1 ≤ 601024; omega), (by show sl + 6 ≤ 7293034; omega)⟩ (fun H locs hP hD hS => ?_)
                          refine lv_istore (lv' := [(6, .int r_268), (5, .int r_263), (0, .ref b), (1, .ref (x0)), (2, .ref (mo 0)), (3, .ref (o0)), (4, .int x4)]) hx hb dL_law_827 hl (by decide) rfl (fun ls hl => ?_)
                          refine lv_aload_n hx hb dL_law_829 rfl (lv_at hl 4 rfl) ?_
                          obtain ⟨r_272, hc_273, hf⟩ := bd_of hf
                          refine fn_V (v := some (.int r_272)) (As := []) (rest := []) (st1 := [.int r_272]) (ws' := ((wLR X x0 hh ht ch tx y hy rP fP rT fT rG fG rL fL rH fH gi di re ti rPT fPT rTT fTT rGT fGT rLT fLT rHT fHT giT diT reT tiT rS fS rB fB rO fO pl fa cn ro Qh) ++ (wOut X o0 fo_264) ++ (wMo X mo al sv sm asd th_269 ho_270 fr txt tl pos od nu su))) (nL := 9) ⟨hx, hb, hml, hown, hts⟩ (c_X6_thrown l X mo al sv sm asd th_269 ho_270 fr txt tl pos od nu su r_272 hc_273) (cwV 0 hts gL_law_X6_thrown rfl rfl rfl (by decide +kernel) ⟨Nat.le_of_ble_eq_true rfl, Nat.le_of_ble_eq_true rfl⟩) 6 rfl rfl rfl rfl hl.1 rfl (Nat.le_of_ble_eq_true rfl) dL_law_830 hK hP (hD0.addr (wLw_fst.trans wLw_fst.symm)) hS hA [78, 79, 80, 81, 82, 83, 84, 85] (by decide +kernel) wC_m (pt_setid _ _ _ wC_m) rfl ⟨(by show cl + 1 ≤ 601024; omega), (by show sl + 6 ≤ 7293034; omega)⟩ (fun H locs hP hD hS => ?_)
                          refine lv_iload hx hb dL_law_833 (lv_at hl 1 rfl) ?_
                          refine lv_icmp_eq (tgt := 840) hx hb dL_law_835 (by decide) (fun c_274 => ?_) (fun c_274 => ?_)
                          · replace hf := fp_t c_274 hf
                            refine lv_iload hx hb dL_law_840 (lv_at hl 1 rfl) ?_
                            refine lv_if_ne (tgt := 857) hx hb dL_law_842 (by decide) (fun c_275 => ?_) (fun c_275 => ?_)
                            · replace hf := fp_f c_275 hf
                              refine lv_goto (tgt := 1814) hx hb dL_law_857 (by decide) ?_
                              obtain ⟨v_276, ev_276⟩ : ∃ y : Int32, y = x4 + (6 : Int32) := ⟨_, rfl⟩
                              replace hf := nm_of ev_276 hf
                              refine lv_iinc (v := v_276) (lv' := [(4, .int v_276), (6, .int r_268), (5, .int r_263), (0, .ref b), (1, .ref (x0)), (2, .ref (mo 0)), (3, .ref (o0))]) hx hb dL_law_1814 hl (k := 6) rfl (by rw [ev_276]; rfl) (by decide) rfl (fun ls hl => ?_)
                              refine lv_goto (tgt := 23) hx hb dL_law_1817 (by decide) ?_
                              exact ih v_276 rP fP rT fT rG fG rL fL rH fH gi di re ti rPT fPT rTT fTT rGT fGT rLT fLT rHT fHT giT diT reT tiT fS rB fB rO fO pl fa cn ro Qh fo_264 al sv sm asd th_269 ho_270 fr txt tl pos od nu su (cl + 1) (sl + 6) _ _ _ (by omega) (by omega) hf hP hS (lv_sub hl [3, 4, 5, 6, 0] rfl)
                            · replace hf := fp_t c_275 hf
                              refine lv_aload_n hx hb dL_law_845 rfl (lv_at hl 5 rfl) ?_
                              refine lv_iconst (v := 0) hx hb dL_law_846 (by decide) ?_
                              obtain ⟨hi_277, hf⟩ := ix_of hf
                              refine va_lald hx hb hK.1 hP 77 1 (get_mid 77 rfl) rfl hi_277 dL_law_847 ?_
                              refine lv_iload hx hb dL_law_848 (lv_at hl 0 rfl) ?_
                              refine lv_i2l (v := r_268.toInt64) hx hb dL_law_850 rfl ?_
                              refine W.lcmp hx hb dL_law_851 ?_
                              refine lv_if_eq (tgt := 857) hx hb dL_law_852 (by decide) (fun c_278 => ?_) (fun c_278 => ?_)
                              · replace hf := fp_t c_278 hf
                                refine lv_goto (tgt := 1814) hx hb dL_law_857 (by decide) ?_
                                obtain ⟨v_279, ev_279⟩ : ∃ y : Int32, y = x4 + (6 : Int32) := ⟨_, rfl⟩
                                replace hf := nm_of ev_279 hf
                                refine lv_iinc (v := v_279) (lv' := [(4, .int v_279), (6, .int r_268), (5, .int r_263), (0, .ref b), (1, .ref (x0)), (2, .ref (mo 0)), (3, .ref (o0))]) hx hb dL_law_1814 hl (k := 6) rfl (by rw [ev_279]; rfl) (by decide) rfl (fun ls hl => ?_)
                                refine lv_goto (tgt := 23) hx hb dL_law_1817 (by decide) ?_
                                exact ih v_279 rP fP rT fT rG fG rL fL rH fH gi di re ti rPT fPT rTT fTT rGT fGT rLT fLT rHT fHT giT diT reT tiT fS rB fB rO fO pl fa cn ro Qh fo_264 al sv sm asd th_269 ho_270 fr txt tl pos od nu su (cl + 1) (sl + 6) _ _ _ (by omega) (by omega) hf hP hS (lv_sub hl [3, 4, 5, 6, 0] rfl)
                              · replace hf := fp_f c_278 hf
                                refine lv_iconst (v := 0) hx hb dL_law_855 (by decide) ?_
                                exact absurd (Option.some.inj hf) (by decide)
                          · replace hf := fp_f c_274 hf
                            refine lv_iconst (v := 0) hx hb dL_law_838 (by decide) ?_
                            exact absurd (Option.some.inj hf) (by decide)
                        · replace hf := fp_f c_260 hf
                          by_cases c_280 : v_3 = (10 : Int32)
                          · replace hf := fp_t c_280 hf
                            refine lv_tableIn (off := 820) (tgt := 860) hx hb dL_law_40 (by rw [c_280]; decide) (by rw [c_280]; decide) (by rw [c_280]; rfl) (by decide) ?_
                            refine lv_aload_n hx hb dL_law_860 rfl (lv_at hl 1 rfl) ?_
                            refine lv_aload_n hx hb dL_law_861 rfl (lv_at hl 0 rfl) ?_
                            refine lv_iload hx hb dL_law_862 (lv_at hl 4 rfl) ?_
                            refine lv_iconst (v := 1) hx hb dL_law_864 (by decide) ?_
                            refine lv_iadd hx hb dL_law_865 ?_
                            obtain ⟨hi_281, hf⟩ := ix_of hf
                            refine va_sld hx hb hX hbl hbA hS hi_281 dL_law_866 ?_
                            refine lv_aload_n hx hb dL_law_867 rfl (lv_at hl 0 rfl) ?_
                            refine lv_iload hx hb dL_law_868 (lv_at hl 4 rfl) ?_
                            refine lv_iconst (v := 2) hx hb dL_law_870 (by decide) ?_
                            refine lv_iadd hx hb dL_law_871 ?_
                            obtain ⟨hi_282, hf⟩ := ix_of hf
                            refine va_sld hx hb hX hbl hbA hS hi_282 dL_law_872 ?_
                            refine lv_aload_n hx hb dL_law_873 rfl (lv_at hl 3 rfl) ?_
                            obtain ⟨r_283, fo_284, hc_285, hf⟩ := bd2_of hf
                            refine fw_S (v := some (.int r_283)) (As := [.ref (x0), .int (xs (x4 + (1 : Int32)).toNatClampNeg), .int (xs (x4 + (2 : Int32)).toNatClampNeg), .ref (o0)]) (rest := []) (st1 := [.int r_283]) (ws' := ((wLR X x0 hh ht ch tx y hy rP fP rT fT rG fG rL fL rH fH gi di re ti rPT fPT rTT fTT rGT fGT rLT fLT rHT fHT giT diT reT tiT rS fS rB fB rO fO pl fa cn ro Qh) ++ (wOut X o0 fo_284) ++ (wMo X mo al sv sm asd th ho fr txt tl pos od nu su))) (nL := 9) ⟨hx, hb, hml, hown, hts⟩ (c_L_thing l hfl X x0 hh ht ch tx y hy o0 rP fP rT fT rG fG rL fL rH fH gi di re ti rPT fPT rTT fTT rGT fGT rLT fLT rHT fHT giT diT reT tiT rS fS rB fB rO fO pl fa cn ro Qh fo (xs (x4 + (1 : Int32)).toNatClampNeg) (xs (x4 + (2 : Int32)).toNatClampNeg) r_283 fo_284 hc_285) (vx_cwSW 4 hts gL_law_L_thing rfl rfl rfl (by decide +kernel) ⟨Nat.le_of_ble_eq_true rfl, Nat.le_of_ble_eq_true rfl⟩) rfl hl.1 rfl (Nat.le_of_ble_eq_true rfl) dL_law_874 hTS hTZ hK hP (hD0.addr (wLw_fst.trans wLw_fst.symm)) hS hA [0, 1, 2, 3, 4, 5, 6, 7, 8, 9, 10, 11, 12, 13, 14, 15, 16, 17, 18, 19, 20, 21, 22, 23, 24, 25, 26, 27, 28, 29, 30, 31, 32, 33, 34, 35, 36, 37, 38, 39, 40, 41, 42, 43, 44, 45, 46, 47, 48, 49, 50, 51, 52, 53, 54, 55, 56, 57, 58, 59, 60, 61, 62, 63, 64, 65, 66, 67, 68, 69, 70, 71, 72, 73, 74, 75, 76, 77] (by decide +kernel) wC_w wJ_w (wLw_fst.trans wLw_fst.symm) rfl ⟨(by show cl + 1 ≤ 601024; omega), (by show sl + 6 ≤ 7293034; omega)⟩ (fun H locs hP hD hS => ?_)
                            refine lv_istore (lv' := [(5, .int r_283), (0, .ref b), (1, .ref (x0)), (2, .ref (mo 0)), (3, .ref (o0)), (4, .int x4)]) hx hb dL_law_877 hl (by decide) rfl (fun ls hl => ?_)
                            refine lv_aload_n hx hb dL_law_879 rfl (lv_at hl 3 rfl) ?_
                            refine lv_aload_n hx hb dL_law_880 rfl (lv_at hl 1 rfl) ?_
                            refine lv_iload hx hb dL_law_881 (lv_at hl 5 rfl) ?_
                            refine lv_iconst (v := 1) hx hb dL_law_883 (by decide) ?_
                            refine lv_iadd hx hb dL_law_884 ?_
                            obtain ⟨hi_286, hf⟩ := ix_of hf
                            refine va_sld hx hb hX hbl hbA hS hi_286 dL_law_885 ?_
                            refine lv_aload_n hx hb dL_law_886 rfl (lv_at hl 1 rfl) ?_
                            refine lv_iload hx hb dL_law_887 (lv_at hl 5 rfl) ?_
                            refine lv_iconst (v := 2) hx hb dL_law_889 (by decide) ?_
                            refine lv_iadd hx hb dL_law_890 ?_
                            obtain ⟨hi_287, hf⟩ := ix_of hf
                            refine va_sld hx hb hX hbl hbA hS hi_287 dL_law_891 ?_
                            obtain ⟨r_288, th_289, ho_290, hc_291, hf⟩ := bd3_of hf
                            refine fn_VJ (v := some (.int r_288)) (As := [.int (xs (x4 + (1 : Int32)).toNatClampNeg), .int (xs (x4 + (2 : Int32)).toNatClampNeg)]) (rest := []) (st1 := [.int r_288]) (ws' := ((wLR X x0 hh ht ch tx y hy rP fP rT fT rG fG rL fL rH fH gi di re ti rPT fPT rTT fTT rGT fGT rLT fLT rHT fHT giT diT reT tiT rS fS rB fB rO fO pl fa cn ro Qh) ++ (wOut X o0 fo_284) ++ (wMo X mo al sv sm asd th_289 ho_290 fr txt tl pos od nu su))) (nL := 9) ⟨hx, hb, hml, hown, hts⟩ (c_X6_thing l X mo al sv sm asd th ho fr txt tl pos od nu su (xs (x4 + (1 : Int32)).toNatClampNeg) (xs (x4 + (2 : Int32)).toNatClampNeg) r_288 th_289 ho_290 hc_291) (cwV 2 hts gL_law_X6_thing rfl rfl rfl (by decide +kernel) ⟨Nat.le_of_ble_eq_true rfl, Nat.le_of_ble_eq_true rfl⟩) 6 rfl rfl rfl rfl hl.1 rfl (Nat.le_of_ble_eq_true rfl) dL_law_892 hK hP (hD0.addr (wLw_fst.trans wLw_fst.symm)) hS hA [78, 79, 80, 81, 82, 83, 84, 85] (by decide +kernel) wC_m wJ_m (wLw_fst.trans wLw_fst.symm) rfl ⟨(by show cl + 1 ≤ 601024; omega), (by show sl + 6 ≤ 7293034; omega)⟩ (fun H locs hP hD hS => ?_)
                            refine lv_istore (lv' := [(6, .int r_288), (5, .int r_283), (0, .ref b), (1, .ref (x0)), (2, .ref (mo 0)), (3, .ref (o0)), (4, .int x4)]) hx hb dL_law_895 hl (by decide) rfl (fun ls hl => ?_)
                            refine lv_aload_n hx hb dL_law_897 rfl (lv_at hl 4 rfl) ?_
                            obtain ⟨r_292, hc_293, hf⟩ := bd_of hf
                            refine fn_V (v := some (.int r_292)) (As := []) (rest := []) (st1 := [.int r_292]) (ws' := ((wLR X x0 hh ht ch tx y hy rP fP rT fT rG fG rL fL rH fH gi di re ti rPT fPT rTT fTT rGT fGT rLT fLT rHT fHT giT diT reT tiT rS fS rB fB rO fO pl fa cn ro Qh) ++ (wOut X o0 fo_284) ++ (wMo X mo al sv sm asd th_289 ho_290 fr txt tl pos od nu su))) (nL := 9) ⟨hx, hb, hml, hown, hts⟩ (c_X6_thrown l X mo al sv sm asd th_289 ho_290 fr txt tl pos od nu su r_292 hc_293) (cwV 0 hts gL_law_X6_thrown rfl rfl rfl (by decide +kernel) ⟨Nat.le_of_ble_eq_true rfl, Nat.le_of_ble_eq_true rfl⟩) 6 rfl rfl rfl rfl hl.1 rfl (Nat.le_of_ble_eq_true rfl) dL_law_898 hK hP (hD0.addr (wLw_fst.trans wLw_fst.symm)) hS hA [78, 79, 80, 81, 82, 83, 84, 85] (by decide +kernel) wC_m (pt_setid _ _ _ wC_m) rfl ⟨(by show cl + 1 ≤ 601024; omega), (by show sl + 6 ≤ 7293034; omega)⟩ (fun H locs hP hD hS => ?_)
                            refine lv_iload hx hb dL_law_901 (lv_at hl 1 rfl) ?_
                            refine lv_icmp_eq (tgt := 908) hx hb dL_law_903 (by decide) (fun c_294 => ?_) (fun c_294 => ?_)
                            · replace hf := fp_t c_294 hf
                              refine lv_iload hx hb dL_law_908 (lv_at hl 1 rfl) ?_
                              refine lv_if_ne (tgt := 925) hx hb dL_law_910 (by decide) (fun c_295 => ?_) (fun c_295 => ?_)
                              · replace hf := fp_f c_295 hf
                                refine lv_goto (tgt := 1814) hx hb dL_law_925 (by decide) ?_
                                obtain ⟨v_296, ev_296⟩ : ∃ y : Int32, y = x4 + (6 : Int32) := ⟨_, rfl⟩
                                replace hf := nm_of ev_296 hf
                                refine lv_iinc (v := v_296) (lv' := [(4, .int v_296), (6, .int r_288), (5, .int r_283), (0, .ref b), (1, .ref (x0)), (2, .ref (mo 0)), (3, .ref (o0))]) hx hb dL_law_1814 hl (k := 6) rfl (by rw [ev_296]; rfl) (by decide) rfl (fun ls hl => ?_)
                                refine lv_goto (tgt := 23) hx hb dL_law_1817 (by decide) ?_
                                exact ih v_296 rP fP rT fT rG fG rL fL rH fH gi di re ti rPT fPT rTT fTT rGT fGT rLT fLT rHT fHT giT diT reT tiT fS rB fB rO fO pl fa cn ro Qh fo_284 al sv sm asd th_289 ho_290 fr txt tl pos od nu su (cl + 1) (sl + 6) _ _ _ (by omega) (by omega) hf hP hS (lv_sub hl [3, 4, 5, 6, 0] rfl)
                              · replace hf := fp_t c_295 hf
                                refine lv_aload_n hx hb dL_law_913 rfl (lv_at hl 5 rfl) ?_
                                refine lv_iconst (v := 0) hx hb dL_law_914 (by decide) ?_
                                obtain ⟨hi_297, hf⟩ := ix_of hf
                                refine va_lald hx hb hK.1 hP 77 1 (get_mid 77 rfl) rfl hi_297 dL_law_915 ?_
                                refine lv_iload hx hb dL_law_916 (lv_at hl 0 rfl) ?_
                                refine lv_i2l (v := r_288.toInt64) hx hb dL_law_918 rfl ?_
                                refine W.lcmp hx hb dL_law_919 ?_
                                refine lv_if_eq (tgt := 925) hx hb dL_law_920 (by decide) (fun c_298 => ?_) (fun c_298 => ?_)
                                · replace hf := fp_t c_298 hf
                                  refine lv_goto (tgt := 1814) hx hb dL_law_925 (by decide) ?_
                                  obtain ⟨v_299, ev_299⟩ : ∃ y : Int32, y = x4 + (6 : Int32) := ⟨_, rfl⟩
                                  replace hf := nm_of ev_299 hf
                                  refine lv_iinc (v := v_299) (lv' := [(4, .int v_299), (6, .int r_288), (5, .int r_283), (0, .ref b), (1, .ref (x0)), (2, .ref (mo 0)), (3, .ref (o0))]) hx hb dL_law_1814 hl (k := 6) rfl (by rw [ev_299]; rfl) (by decide) rfl (fun ls hl => ?_)
                                  refine lv_goto (tgt := 23) hx hb dL_law_1817 (by decide) ?_
                                  exact ih v_299 rP fP rT fT rG fG rL fL rH fH gi di re ti rPT fPT rTT fTT rGT fGT rLT fLT rHT fHT giT diT reT tiT fS rB fB rO fO pl fa cn ro Qh fo_284 al sv sm asd th_289 ho_290 fr txt tl pos od nu su (cl + 1) (sl + 6) _ _ _ (by omega) (by omega) hf hP hS (lv_sub hl [3, 4, 5, 6, 0] rfl)
                                · replace hf := fp_f c_298 hf
                                  refine lv_iconst (v := 0) hx hb dL_law_923 (by decide) ?_
                                  exact absurd (Option.some.inj hf) (by decide)
                            · replace hf := fp_f c_294 hf
                              refine lv_iconst (v := 0) hx hb dL_law_906 (by decide) ?_
                              exact absurd (Option.some.inj hf) (by decide)
                          · replace hf := fp_f c_280 hf
                            by_cases c_300 : v_3 = (11 : Int32)
                            · replace hf := fp_t c_300 hf
                              refine lv_tableIn (off := 888) (tgt := 928) hx hb dL_law_40 (by rw [c_300]; decide) (by rw [c_300]; decide) (by rw [c_300]; rfl) (by decide) ?_
                              refine lv_aload_n hx hb dL_law_928 rfl (lv_at hl 1 rfl) ?_
                              refine lv_aload_n hx hb dL_law_929 rfl (lv_at hl 0 rfl) ?_
                              refine lv_iload hx hb dL_law_930 (lv_at hl 4 rfl) ?_
                              refine lv_iconst (v := 1) hx hb dL_law_932 (by decide) ?_
                              refine lv_iadd hx hb dL_law_933 ?_
                              obtain ⟨hi_301, hf⟩ := ix_of hf
                              refine va_sld hx hb hX hbl hbA hS hi_301 dL_law_934 ?_
                              refine lv_aload_n hx hb dL_law_935 rfl (lv_at hl 0 rfl) ?_
                              refine lv_iload hx hb dL_law_936 (lv_at hl 4 rfl) ?_
                              refine lv_iconst (v := 2) hx hb dL_law_938 (by decide) ?_
                              refine lv_iadd hx hb dL_law_939 ?_
                              obtain ⟨hi_302, hf⟩ := ix_of hf
                              refine va_sld hx hb hX hbl hbA hS hi_302 dL_law_940 ?_
                              refine lv_aload_n hx hb dL_law_941 rfl (lv_at hl 3 rfl) ?_
                              obtain ⟨r_303, fo_304, hc_305, hf⟩ := bd2_of hf
                              refine fw_S (v := some (.int r_303)) (As := [.ref (x0), .int (xs (x4 + (1 : Int32)).toNatClampNeg), .int (xs (x4 + (2 : Int32)).toNatClampNeg), .ref (o0)]) (rest := []) (st1 := [.int r_303]) (ws' := ((wLR X x0 hh ht ch tx y hy rP fP rT fT rG fG rL fL rH fH gi di re ti rPT fPT rTT fTT rGT fGT rLT fLT rHT fHT giT diT reT tiT rS fS rB fB rO fO pl fa cn ro Qh) ++ (wOut X o0 fo_304) ++ (wMo X mo al sv sm asd th ho fr txt tl pos od nu su))) (nL := 9) ⟨hx, hb, hml, hown, hts⟩ (c_L_grantOf l hfl X x0 hh ht ch tx y hy o0 rP fP rT fT rG fG rL fL rH fH gi di re ti rPT fPT rTT fTT rGT fGT rLT fLT rHT fHT giT diT reT tiT rS fS rB fB rO fO pl fa cn ro Qh fo (xs (x4 + (1 : Int32)).toNatClampNeg) (xs (x4 + (2 : Int32)).toNatClampNeg) r_303 fo_304 hc_305) (vx_cwSW 4 hts gL_law_L_grantOf rfl rfl rfl (by decide +kernel) ⟨Nat.le_of_ble_eq_true rfl, Nat.le_of_ble_eq_true rfl⟩) rfl hl.1 rfl (Nat.le_of_ble_eq_true rfl) dL_law_942 hTS hTZ hK hP (hD0.addr (wLw_fst.trans wLw_fst.symm)) hS hA [0, 1, 2, 3, 4, 5, 6, 7, 8, 9, 10, 11, 12, 13, 14, 15, 16, 17, 18, 19, 20, 21, 22, 23, 24, 25, 26, 27, 28, 29, 30, 31, 32, 33, 34, 35, 36, 37, 38, 39, 40, 41, 42, 43, 44, 45, 46, 47, 48, 49, 50, 51, 52, 53, 54, 55, 56, 57, 58, 59, 60, 61, 62, 63, 64, 65, 66, 67, 68, 69, 70, 71, 72, 73, 74, 75, 76, 77] (by decide +kernel) wC_w wJ_w (wLw_fst.trans wLw_fst.symm) rfl ⟨(by show cl + 1 ≤ 601024; omega), (by show sl + 6 ≤ 7293034; omega)⟩ (fun H locs hP hD hS => ?_)
                              refine lv_istore (lv' := [(5, .int r_303), (0, .ref b), (1, .ref (x0)), (2, .ref (mo 0)), (3, .ref (o0)), (4, .int x4)]) hx hb dL_law_945 hl (by decide) rfl (fun ls hl => ?_)
                              refine lv_aload_n hx hb dL_law_947 rfl (lv_at hl 3 rfl) ?_
                              refine lv_aload_n hx hb dL_law_948 rfl (lv_at hl 1 rfl) ?_
                              refine lv_iload hx hb dL_law_949 (lv_at hl 5 rfl) ?_
                              refine lv_iconst (v := 1) hx hb dL_law_951 (by decide) ?_
                              refine lv_iadd hx hb dL_law_952 ?_
                              obtain ⟨hi_306, hf⟩ := ix_of hf
                              refine va_sld hx hb hX hbl hbA hS hi_306 dL_law_953 ?_
                              refine lv_aload_n hx hb dL_law_954 rfl (lv_at hl 1 rfl) ?_
                              refine lv_iload hx hb dL_law_955 (lv_at hl 5 rfl) ?_
                              refine lv_iconst (v := 2) hx hb dL_law_957 (by decide) ?_
                              refine lv_iadd hx hb dL_law_958 ?_
                              obtain ⟨hi_307, hf⟩ := ix_of hf
                              refine va_sld hx hb hX hbl hbA hS hi_307 dL_law_959 ?_
                              obtain ⟨r_308, th_309, ho_310, hc_311, hf⟩ := bd3_of hf
                              refine fn_VJ (v := some (.int r_308)) (As := [.int (xs (x4 + (1 : Int32)).toNatClampNeg), .int (xs (x4 + (2 : Int32)).toNatClampNeg)]) (rest := []) (st1 := [.int r_308]) (ws' := ((wLR X x0 hh ht ch tx y hy rP fP rT fT rG fG rL fL rH fH gi di re ti rPT fPT rTT fTT rGT fGT rLT fLT rHT fHT giT diT reT tiT rS fS rB fB rO fO pl fa cn ro Qh) ++ (wOut X o0 fo_304) ++ (wMo X mo al sv sm asd th_309 ho_310 fr txt tl pos od nu su))) (nL := 9) ⟨hx, hb, hml, hown, hts⟩ (c_X6_grantOf l X mo al sv sm asd th ho fr txt tl pos od nu su (xs (x4 + (1 : Int32)).toNatClampNeg) (xs (x4 + (2 : Int32)).toNatClampNeg) r_308 th_309 ho_310 hc_311) (cwV 2 hts gL_law_X6_grantOf rfl rfl rfl (by decide +kernel) ⟨Nat.le_of_ble_eq_true rfl, Nat.le_of_ble_eq_true rfl⟩) 6 rfl rfl rfl rfl hl.1 rfl (Nat.le_of_ble_eq_true rfl) dL_law_960 hK hP (hD0.addr (wLw_fst.trans wLw_fst.symm)) hS hA [78, 79, 80, 81, 82, 83, 84, 85] (by decide +kernel) wC_m wJ_m (wLw_fst.trans wLw_fst.symm) rfl ⟨(by show cl + 1 ≤ 601024; omega), (by show sl + 6 ≤ 7293034; omega)⟩ (fun H locs hP hD hS => ?_)
                              refine lv_istore (lv' := [(6, .int r_308), (5, .int r_303), (0, .ref b), (1, .ref (x0)), (2, .ref (mo 0)), (3, .ref (o0)), (4, .int x4)]) hx hb dL_law_963 hl (by decide) rfl (fun ls hl => ?_)
                              refine lv_aload_n hx hb dL_law_965 rfl (lv_at hl 4 rfl) ?_
                              obtain ⟨r_312, hc_313, hf⟩ := bd_of hf
                              refine fn_V (v := some (.int r_312)) (As := []) (rest := []) (st1 := [.int r_312]) (ws' := ((wLR X x0 hh ht ch tx y hy rP fP rT fT rG fG rL fL rH fH gi di re ti rPT fPT rTT fTT rGT fGT rLT fLT rHT fHT giT diT reT tiT rS fS rB fB rO fO pl fa cn ro Qh) ++ (wOut X o0 fo_304) ++ (wMo X mo al sv sm asd th_309 ho_310 fr txt tl pos od nu su))) (nL := 9) ⟨hx, hb, hml, hown, hts⟩ (c_X6_thrown l X mo al sv sm asd th_309 ho_310 fr txt tl pos od nu su r_312 hc_313) (cwV 0 hts gL_law_X6_thrown rfl rfl rfl (by decide +kernel) ⟨Nat.le_of_ble_eq_true rfl, Nat.le_of_ble_eq_true rfl⟩) 6 rfl rfl rfl rfl hl.1 rfl (Nat.le_of_ble_eq_true rfl) dL_law_966 hK hP (hD0.addr (wLw_fst.trans wLw_fst.symm)) hS hA [78, 79, 80, 81, 82, 83, 84, 85] (by decide +kernel) wC_m (pt_setid _ _ _ wC_m) rfl ⟨(by show cl + 1 ≤ 601024; omega), (by show sl + 6 ≤ 7293034; omega)⟩ (fun H locs hP hD hS => ?_)
                              refine lv_iload hx hb dL_law_969 (lv_at hl 1 rfl) ?_
                              refine lv_icmp_eq (tgt := 976) hx hb dL_law_971 (by decide) (fun c_314 => ?_) (fun c_314 => ?_)
                              · replace hf := fp_t c_314 hf
                                refine lv_iload hx hb dL_law_976 (lv_at hl 1 rfl) ?_
                                refine lv_if_ne (tgt := 993) hx hb dL_law_978 (by decide) (fun c_315 => ?_) (fun c_315 => ?_)
                                · replace hf := fp_f c_315 hf
                                  refine lv_goto (tgt := 1814) hx hb dL_law_993 (by decide) ?_
                                  obtain ⟨v_316, ev_316⟩ : ∃ y : Int32, y = x4 + (6 : Int32) := ⟨_, rfl⟩
                                  replace hf := nm_of ev_316 hf
                                  refine lv_iinc (v := v_316) (lv' := [(4, .int v_316), (6, .int r_308), (5, .int r_303), (0, .ref b), (1, .ref (x0)), (2, .ref (mo 0)), (3, .ref (o0))]) hx hb dL_law_1814 hl (k := 6) rfl (by rw [ev_316]; rfl) (by decide) rfl (fun ls hl => ?_)
                                  refine lv_goto (tgt := 23) hx hb dL_law_1817 (by decide) ?_
                                  exact ih v_316 rP fP rT fT rG fG rL fL rH fH gi di re ti rPT fPT rTT fTT rGT fGT rLT fLT rHT fHT giT diT reT tiT fS rB fB rO fO pl fa cn ro Qh fo_304 al sv sm asd th_309 ho_310 fr txt tl pos od nu su (cl + 1) (sl + 6) _ _ _ (by omega) (by omega) hf hP hS (lv_sub hl [3, 4, 5, 6, 0] rfl)
                                · replace hf := fp_t c_315 hf
                                  refine lv_aload_n hx hb dL_law_981 rfl (lv_at hl 5 rfl) ?_
                                  refine lv_iconst (v := 0) hx hb dL_law_982 (by decide) ?_
                                  obtain ⟨hi_317, hf⟩ := ix_of hf
                                  refine va_lald hx hb hK.1 hP 77 1 (get_mid 77 rfl) rfl hi_317 dL_law_983 ?_
                                  refine lv_iload hx hb dL_law_984 (lv_at hl 0 rfl) ?_
                                  refine lv_i2l (v := r_308.toInt64) hx hb dL_law_986 rfl ?_
                                  refine W.lcmp hx hb dL_law_987 ?_
                                  refine lv_if_eq (tgt := 993) hx hb dL_law_988 (by decide) (fun c_318 => ?_) (fun c_318 => ?_)
                                  · replace hf := fp_t c_318 hf
                                    refine lv_goto (tgt := 1814) hx hb dL_law_993 (by decide) ?_
                                    obtain ⟨v_319, ev_319⟩ : ∃ y : Int32, y = x4 + (6 : Int32) := ⟨_, rfl⟩
                                    replace hf := nm_of ev_319 hf
                                    refine lv_iinc (v := v_319) (lv' := [(4, .int v_319), (6, .int r_308), (5, .int r_303), (0, .ref b), (1, .ref (x0)), (2, .ref (mo 0)), (3, .ref (o0))]) hx hb dL_law_1814 hl (k := 6) rfl (by rw [ev_319]; rfl) (by decide) rfl (fun ls hl => ?_)
                                    refine lv_goto (tgt := 23) hx hb dL_law_1817 (by decide) ?_
                                    exact ih v_319 rP fP rT fT rG fG rL fL rH fH gi di re ti rPT fPT rTT fTT rGT fGT rLT fLT rHT fHT giT diT reT tiT fS rB fB rO fO pl fa cn ro Qh fo_304 al sv sm asd th_309 ho_310 fr txt tl pos od nu su (cl + 1) (sl + 6) _ _ _ (by omega) (by omega) hf hP hS (lv_sub hl [3, 4, 5, 6, 0] rfl)
                                  · replace hf := fp_f c_318 hf
                                    refine lv_iconst (v := 0) hx hb dL_law_991 (by decide) ?_
                                    exact absurd (Option.some.inj hf) (by decide)
                              · replace hf := fp_f c_314 hf
                                refine lv_iconst (v := 0) hx hb dL_law_974 (by decide) ?_
                                exact absurd (Option.some.inj hf) (by decide)
                            · replace hf := fp_f c_300 hf
                              by_cases c_320 : v_3 = (12 : Int32)
                              · replace hf := fp_t c_320 hf
                                refine lv_tableIn (off := 956) (tgt := 996) hx hb dL_law_40 (by rw [c_320]; decide) (by rw [c_320]; decide) (by rw [c_320]; rfl) (by decide) ?_
                                refine lv_aload_n hx hb dL_law_996 rfl (lv_at hl 1 rfl) ?_
                                refine lv_aload_n hx hb dL_law_997 rfl (lv_at hl 0 rfl) ?_
                                refine lv_iload hx hb dL_law_998 (lv_at hl 4 rfl) ?_
                                refine lv_iconst (v := 1) hx hb dL_law_1000 (by decide) ?_
                                refine lv_iadd hx hb dL_law_1001 ?_
                                obtain ⟨hi_321, hf⟩ := ix_of hf
                                refine va_sld hx hb hX hbl hbA hS hi_321 dL_law_1002 ?_
                                refine lv_aload_n hx hb dL_law_1003 rfl (lv_at hl 0 rfl) ?_
                                refine lv_iload hx hb dL_law_1004 (lv_at hl 4 rfl) ?_
                                refine lv_iconst (v := 2) hx hb dL_law_1006 (by decide) ?_
                                refine lv_iadd hx hb dL_law_1007 ?_
                                obtain ⟨hi_322, hf⟩ := ix_of hf
                                refine va_sld hx hb hX hbl hbA hS hi_322 dL_law_1008 ?_
                                refine lv_aload_n hx hb dL_law_1009 rfl (lv_at hl 3 rfl) ?_
                                obtain ⟨r_323, fS_324, fo_325, hc_326, hf⟩ := bd3_of hf
                                refine fw_S (v := some (.int r_323)) (As := [.ref (x0), .int (xs (x4 + (1 : Int32)).toNatClampNeg), .int (xs (x4 + (2 : Int32)).toNatClampNeg), .ref (o0)]) (rest := []) (st1 := [.int r_323]) (ws' := ((wLR X x0 hh ht ch tx y hy rP fP rT fT rG fG rL fL rH fH gi di re ti rPT fPT rTT fTT rGT fGT rLT fLT rHT fHT giT diT reT tiT rS fS_324 rB fB rO fO pl fa cn ro Qh) ++ (wOut X o0 fo_325) ++ (wMo X mo al sv sm asd th ho fr txt tl pos od nu su))) (nL := 9) ⟨hx, hb, hml, hown, hts⟩ (c_L_chain l hfl X x0 hh ht ch tx y hy o0 rP fP rT fT rG fG rL fL rH fH gi di re ti rPT fPT rTT fTT rGT fGT rLT fLT rHT fHT giT diT reT tiT rS fS rB fB rO fO pl fa cn ro Qh fo (xs (x4 + (1 : Int32)).toNatClampNeg) (xs (x4 + (2 : Int32)).toNatClampNeg) r_323 fS_324 fo_325 hc_326) (vx_cwSW 4 hts gL_law_L_chain rfl rfl rfl (by decide +kernel) ⟨Nat.le_of_ble_eq_true rfl, Nat.le_of_ble_eq_true rfl⟩) rfl hl.1 rfl (Nat.le_of_ble_eq_true rfl) dL_law_1010 hTS hTZ hK hP (hD0.addr (wLw_fst.trans wLw_fst.symm)) hS hA [0, 1, 2, 3, 4, 5, 6, 7, 8, 9, 10, 11, 12, 13, 14, 15, 16, 17, 18, 19, 20, 21, 22, 23, 24, 25, 26, 27, 28, 29, 30, 31, 32, 33, 34, 35, 36, 37, 38, 39, 40, 41, 42, 43, 44, 45, 46, 47, 48, 49, 50, 51, 52, 53, 54, 55, 56, 57, 58, 59, 60, 61, 62, 63, 64, 65, 66, 67, 68, 69, 70, 71, 72, 73, 74, 75, 76, 77] (by decide +kernel) wC_w wJ_w (wLw_fst.trans wLw_fst.symm) rfl ⟨(by show cl + 1 ≤ 601024; omega), (by show sl + 6 ≤ 7293034; omega)⟩ (fun H locs hP hD hS => ?_)
                                refine lv_istore (lv' := [(5, .int r_323), (0, .ref b), (1, .ref (x0)), (2, .ref (mo 0)), (3, .ref (o0)), (4, .int x4)]) hx hb dL_law_1013 hl (by decide) rfl (fun ls hl => ?_)
                                refine lv_aload_n hx hb dL_law_1015 rfl (lv_at hl 3 rfl) ?_
                                refine lv_aload_n hx hb dL_law_1016 rfl (lv_at hl 1 rfl) ?_
                                refine lv_iload hx hb dL_law_1017 (lv_at hl 5 rfl) ?_
                                refine lv_iconst (v := 1) hx hb dL_law_1019 (by decide) ?_
                                refine lv_iadd hx hb dL_law_1020 ?_
                                obtain ⟨hi_327, hf⟩ := ix_of hf
                                refine va_sld hx hb hX hbl hbA hS hi_327 dL_law_1021 ?_
                                refine lv_aload_n hx hb dL_law_1022 rfl (lv_at hl 1 rfl) ?_
                                refine lv_iload hx hb dL_law_1023 (lv_at hl 5 rfl) ?_
                                refine lv_iconst (v := 2) hx hb dL_law_1025 (by decide) ?_
                                refine lv_iadd hx hb dL_law_1026 ?_
                                obtain ⟨hi_328, hf⟩ := ix_of hf
                                refine va_sld hx hb hX hbl hbA hS hi_328 dL_law_1027 ?_
                                obtain ⟨r_329, th_330, ho_331, fr_332, hc_333, hf⟩ := bd4_of hf
                                refine fn_VJ (v := some (.int r_329)) (As := [.int (xs (x4 + (1 : Int32)).toNatClampNeg), .int (xs (x4 + (2 : Int32)).toNatClampNeg)]) (rest := []) (st1 := [.int r_329]) (ws' := ((wLR X x0 hh ht ch tx y hy rP fP rT fT rG fG rL fL rH fH gi di re ti rPT fPT rTT fTT rGT fGT rLT fLT rHT fHT giT diT reT tiT rS fS_324 rB fB rO fO pl fa cn ro Qh) ++ (wOut X o0 fo_325) ++ (wMo X mo al sv sm asd th_330 ho_331 fr_332 txt tl pos od nu su))) (nL := 9) ⟨hx, hb, hml, hown, hts⟩ (c_X6_chain l X mo al sv sm asd th ho fr txt tl pos od nu su (xs (x4 + (1 : Int32)).toNatClampNeg) (xs (x4 + (2 : Int32)).toNatClampNeg) r_329 th_330 ho_331 fr_332 hc_333) (cwV 2 hts gL_law_X6_chain rfl rfl rfl (by decide +kernel) ⟨Nat.le_of_ble_eq_true rfl, Nat.le_of_ble_eq_true rfl⟩) 6 rfl rfl rfl rfl hl.1 rfl (Nat.le_of_ble_eq_true rfl) dL_law_1028 hK hP (hD0.addr (wLw_fst.trans wLw_fst.symm)) hS hA [78, 79, 80, 81, 82, 83, 84, 85] (by decide +kernel) wC_m wJ_m (wLw_fst.trans wLw_fst.symm) rfl ⟨(by show cl + 1 ≤ 601024; omega), (by show sl + 6 ≤ 7293034; omega)⟩ (fun H locs hP hD hS => ?_)
                                refine lv_istore (lv' := [(6, .int r_329), (5, .int r_323), (0, .ref b), (1, .ref (x0)), (2, .ref (mo 0)), (3, .ref (o0)), (4, .int x4)]) hx hb dL_law_1031 hl (by decide) rfl (fun ls hl => ?_)
                                refine lv_aload_n hx hb dL_law_1033 rfl (lv_at hl 4 rfl) ?_
                                obtain ⟨r_334, hc_335, hf⟩ := bd_of hf
                                refine fn_V (v := some (.int r_334)) (As := []) (rest := []) (st1 := [.int r_334]) (ws' := ((wLR X x0 hh ht ch tx y hy rP fP rT fT rG fG rL fL rH fH gi di re ti rPT fPT rTT fTT rGT fGT rLT fLT rHT fHT giT diT reT tiT rS fS_324 rB fB rO fO pl fa cn ro Qh) ++ (wOut X o0 fo_325) ++ (wMo X mo al sv sm asd th_330 ho_331 fr_332 txt tl pos od nu su))) (nL := 9) ⟨hx, hb, hml, hown, hts⟩ (c_X6_thrown l X mo al sv sm asd th_330 ho_331 fr_332 txt tl pos od nu su r_334 hc_335) (cwV 0 hts gL_law_X6_thrown rfl rfl rfl (by decide +kernel) ⟨Nat.le_of_ble_eq_true rfl, Nat.le_of_ble_eq_true rfl⟩) 6 rfl rfl rfl rfl hl.1 rfl (Nat.le_of_ble_eq_true rfl) dL_law_1034 hK hP (hD0.addr (wLw_fst.trans wLw_fst.symm)) hS hA [78, 79, 80, 81, 82, 83, 84, 85] (by decide +kernel) wC_m (pt_setid _ _ _ wC_m) rfl ⟨(by show cl + 1 ≤ 601024; omega), (by show sl + 6 ≤ 7293034; omega)⟩ (fun H locs hP hD hS => ?_)
                                refine lv_iload hx hb dL_law_1037 (lv_at hl 1 rfl) ?_
                                refine lv_icmp_eq (tgt := 1044) hx hb dL_law_1039 (by decide) (fun c_336 => ?_) (fun c_336 => ?_)
                                · replace hf := fp_t c_336 hf
                                  refine lv_iload hx hb dL_law_1044 (lv_at hl 1 rfl) ?_
                                  refine lv_if_ne (tgt := 1061) hx hb dL_law_1046 (by decide) (fun c_337 => ?_) (fun c_337 => ?_)
                                  · replace hf := fp_f c_337 hf
                                    refine lv_goto (tgt := 1814) hx hb dL_law_1061 (by decide) ?_
                                    obtain ⟨v_338, ev_338⟩ : ∃ y : Int32, y = x4 + (6 : Int32) := ⟨_, rfl⟩
                                    replace hf := nm_of ev_338 hf
                                    refine lv_iinc (v := v_338) (lv' := [(4, .int v_338), (6, .int r_329), (5, .int r_323), (0, .ref b), (1, .ref (x0)), (2, .ref (mo 0)), (3, .ref (o0))]) hx hb dL_law_1814 hl (k := 6) rfl (by rw [ev_338]; rfl) (by decide) rfl (fun ls hl => ?_)
                                    refine lv_goto (tgt := 23) hx hb dL_law_1817 (by decide) ?_
                                    exact ih v_338 rP fP rT fT rG fG rL fL rH fH gi di re ti rPT fPT rTT fTT rGT fGT rLT fLT rHT fHT giT diT reT tiT fS_324 rB fB rO fO pl fa cn ro Qh fo_325 al sv sm asd th_330 ho_331 fr_332 txt tl pos od nu su (cl + 1) (sl + 6) _ _ _ (by omega) (by omega) hf hP hS (lv_sub hl [3, 4, 5, 6, 0] rfl)
                                  · replace hf := fp_t c_337 hf
                                    refine lv_aload_n hx hb dL_law_1049 rfl (lv_at hl 5 rfl) ?_
                                    refine lv_iconst (v := 0) hx hb dL_law_1050 (by decide) ?_
                                    obtain ⟨hi_339, hf⟩ := ix_of hf
                                    refine va_lald hx hb hK.1 hP 77 1 (get_mid 77 rfl) rfl hi_339 dL_law_1051 ?_
                                    refine lv_iload hx hb dL_law_1052 (lv_at hl 0 rfl) ?_
                                    refine lv_i2l (v := r_329.toInt64) hx hb dL_law_1054 rfl ?_
                                    refine W.lcmp hx hb dL_law_1055 ?_
                                    refine lv_if_eq (tgt := 1061) hx hb dL_law_1056 (by decide) (fun c_340 => ?_) (fun c_340 => ?_)
                                    · replace hf := fp_t c_340 hf
                                      refine lv_goto (tgt := 1814) hx hb dL_law_1061 (by decide) ?_
                                      obtain ⟨v_341, ev_341⟩ : ∃ y : Int32, y = x4 + (6 : Int32) := ⟨_, rfl⟩
                                      replace hf := nm_of ev_341 hf
                                      refine lv_iinc (v := v_341) (lv' := [(4, .int v_341), (6, .int r_329), (5, .int r_323), (0, .ref b), (1, .ref (x0)), (2, .ref (mo 0)), (3, .ref (o0))]) hx hb dL_law_1814 hl (k := 6) rfl (by rw [ev_341]; rfl) (by decide) rfl (fun ls hl => ?_)
                                      refine lv_goto (tgt := 23) hx hb dL_law_1817 (by decide) ?_
                                      exact ih v_341 rP fP rT fT rG fG rL fL rH fH gi di re ti rPT fPT rTT fTT rGT fGT rLT fLT rHT fHT giT diT reT tiT fS_324 rB fB rO fO pl fa cn ro Qh fo_325 al sv sm asd th_330 ho_331 fr_332 txt tl pos od nu su (cl + 1) (sl + 6) _ _ _ (by omega) (by omega) hf hP hS (lv_sub hl [3, 4, 5, 6, 0] rfl)
                                    · replace hf := fp_f c_340 hf
                                      refine lv_iconst (v := 0) hx hb dL_law_1059 (by decide) ?_
                                      exact absurd (Option.some.inj hf) (by decide)
                                · replace hf := fp_f c_336 hf
                                  refine lv_iconst (v := 0) hx hb dL_law_1042 (by decide) ?_
                                  exact absurd (Option.some.inj hf) (by decide)
                              · replace hf := fp_f c_320 hf
                                by_cases c_342 : v_3 = (13 : Int32)
                                · replace hf := fp_t c_342 hf
                                  refine lv_tableIn (off := 1024) (tgt := 1064) hx hb dL_law_40 (by rw [c_342]; decide) (by rw [c_342]; decide) (by rw [c_342]; rfl) (by decide) ?_
                                  refine lv_aload_n hx hb dL_law_1064 rfl (lv_at hl 1 rfl) ?_
                                  refine lv_aload_n hx hb dL_law_1065 rfl (lv_at hl 0 rfl) ?_
                                  refine lv_iload hx hb dL_law_1066 (lv_at hl 4 rfl) ?_
                                  refine lv_iconst (v := 1) hx hb dL_law_1068 (by decide) ?_
                                  refine lv_iadd hx hb dL_law_1069 ?_
                                  obtain ⟨hi_343, hf⟩ := ix_of hf
                                  refine va_sld hx hb hX hbl hbA hS hi_343 dL_law_1070 ?_
                                  refine lv_aload_n hx hb dL_law_1071 rfl (lv_at hl 0 rfl) ?_
                                  refine lv_iload hx hb dL_law_1072 (lv_at hl 4 rfl) ?_
                                  refine lv_iconst (v := 2) hx hb dL_law_1074 (by decide) ?_
                                  refine lv_iadd hx hb dL_law_1075 ?_
                                  obtain ⟨hi_344, hf⟩ := ix_of hf
                                  refine va_sld hx hb hX hbl hbA hS hi_344 dL_law_1076 ?_
                                  refine lv_aload_n hx hb dL_law_1077 rfl (lv_at hl 0 rfl) ?_
                                  refine lv_iload hx hb dL_law_1078 (lv_at hl 4 rfl) ?_
                                  refine lv_iconst (v := 3) hx hb dL_law_1080 (by decide) ?_
                                  refine lv_iadd hx hb dL_law_1081 ?_
                                  obtain ⟨hi_345, hf⟩ := ix_of hf
                                  refine va_sld hx hb hX hbl hbA hS hi_345 dL_law_1082 ?_
                                  refine lv_aload_n hx hb dL_law_1083 rfl (lv_at hl 3 rfl) ?_
                                  obtain ⟨r_346, fS_347, fo_348, hc_349, hf⟩ := bd3_of hf
                                  refine fw_S (v := some (.int r_346)) (As := [.ref (x0), .int (xs (x4 + (1 : Int32)).toNatClampNeg), .int (xs (x4 + (2 : Int32)).toNatClampNeg), .int (xs (x4 + (3 : Int32)).toNatClampNeg), .ref (o0)]) (rest := []) (st1 := [.int r_346]) (ws' := ((wLR X x0 hh ht ch tx y hy rP fP rT fT rG fG rL fL rH fH gi di re ti rPT fPT rTT fTT rGT fGT rLT fLT rHT fHT giT diT reT tiT rS fS_347 rB fB rO fO pl fa cn ro Qh) ++ (wOut X o0 fo_348) ++ (wMo X mo al sv sm asd th ho fr txt tl pos od nu su))) (nL := 9) ⟨hx, hb, hml, hown, hts⟩ (c_L_link l hfl X x0 hh ht ch tx y hy o0 rP fP rT fT rG fG rL fL rH fH gi di re ti rPT fPT rTT fTT rGT fGT rLT fLT rHT fHT giT diT reT tiT rS fS rB fB rO fO pl fa cn ro Qh fo (xs (x4 + (1 : Int32)).toNatClampNeg) (xs (x4 + (2 : Int32)).toNatClampNeg) (xs (x4 + (3 : Int32)).toNatClampNeg) r_346 fS_347 fo_348 hc_349) (vx_cwSW 5 hts gL_law_L_link rfl rfl rfl (by decide +kernel) ⟨Nat.le_of_ble_eq_true rfl, Nat.le_of_ble_eq_true rfl⟩) rfl hl.1 rfl (Nat.le_of_ble_eq_true rfl) dL_law_1084 hTS hTZ hK hP (hD0.addr (wLw_fst.trans wLw_fst.symm)) hS hA [0, 1, 2, 3, 4, 5, 6, 7, 8, 9, 10, 11, 12, 13, 14, 15, 16, 17, 18, 19, 20, 21, 22, 23, 24, 25, 26, 27, 28, 29, 30, 31, 32, 33, 34, 35, 36, 37, 38, 39, 40, 41, 42, 43, 44, 45, 46, 47, 48, 49, 50, 51, 52, 53, 54, 55, 56, 57, 58, 59, 60, 61, 62, 63, 64, 65, 66, 67, 68, 69, 70, 71, 72, 73, 74, 75, 76, 77] (by decide +kernel) wC_w wJ_w (wLw_fst.trans wLw_fst.symm) rfl ⟨(by show cl + 1 ≤ 601024; omega), (by show sl + 6 ≤ 7293034; omega)⟩ (fun H locs hP hD hS => ?_)
                                  refine lv_istore (lv' := [(5, .int r_346), (0, .ref b), (1, .ref (x0)), (2, .ref (mo 0)), (3, .ref (o0)), (4, .int x4)]) hx hb dL_law_1087 hl (by decide) rfl (fun ls hl => ?_)
                                  refine lv_aload_n hx hb dL_law_1089 rfl (lv_at hl 3 rfl) ?_
                                  refine lv_aload_n hx hb dL_law_1090 rfl (lv_at hl 1 rfl) ?_
                                  refine lv_iload hx hb dL_law_1091 (lv_at hl 5 rfl) ?_
                                  refine lv_iconst (v := 1) hx hb dL_law_1093 (by decide) ?_
                                  refine lv_iadd hx hb dL_law_1094 ?_
                                  obtain ⟨hi_350, hf⟩ := ix_of hf
                                  refine va_sld hx hb hX hbl hbA hS hi_350 dL_law_1095 ?_
                                  refine lv_aload_n hx hb dL_law_1096 rfl (lv_at hl 1 rfl) ?_
                                  refine lv_iload hx hb dL_law_1097 (lv_at hl 5 rfl) ?_
                                  refine lv_iconst (v := 2) hx hb dL_law_1099 (by decide) ?_
                                  refine lv_iadd hx hb dL_law_1100 ?_
                                  obtain ⟨hi_351, hf⟩ := ix_of hf
                                  refine va_sld hx hb hX hbl hbA hS hi_351 dL_law_1101 ?_
                                  refine lv_aload_n hx hb dL_law_1102 rfl (lv_at hl 1 rfl) ?_
                                  refine lv_iload hx hb dL_law_1103 (lv_at hl 5 rfl) ?_
                                  refine lv_iconst (v := 3) hx hb dL_law_1105 (by decide) ?_
                                  refine lv_iadd hx hb dL_law_1106 ?_
                                  obtain ⟨hi_352, hf⟩ := ix_of hf
                                  refine va_sld hx hb hX hbl hbA hS hi_352 dL_law_1107 ?_
                                  obtain ⟨r_353, th_354, ho_355, fr_356, hc_357, hf⟩ := bd4_of hf
                                  refine fn_VJ (v := some (.int r_353)) (As := [.int (xs (x4 + (1 : Int32)).toNatClampNeg), .int (xs (x4 + (2 : Int32)).toNatClampNeg), .int (xs (x4 + (3 : Int32)).toNatClampNeg)]) (rest := []) (st1 := [.int r_353]) (ws' := ((wLR X x0 hh ht ch tx y hy rP fP rT fT rG fG rL fL rH fH gi di re ti rPT fPT rTT fTT rGT fGT rLT fLT rHT fHT giT diT reT tiT rS fS_347 rB fB rO fO pl fa cn ro Qh) ++ (wOut X o0 fo_348) ++ (wMo X mo al sv sm asd th_354 ho_355 fr_356 txt tl pos od nu su))) (nL := 9) ⟨hx, hb, hml, hown, hts⟩ (c_X6_link l X mo al sv sm asd th ho fr txt tl pos od nu su (xs (x4 + (1 : Int32)).toNatClampNeg) (xs (x4 + (2 : Int32)).toNatClampNeg) (xs (x4 + (3 : Int32)).toNatClampNeg) r_353 th_354 ho_355 fr_356 hc_357) (cwV 3 hts gL_law_X6_link rfl rfl rfl (by decide +kernel) ⟨Nat.le_of_ble_eq_true rfl, Nat.le_of_ble_eq_true rfl⟩) 6 rfl rfl rfl rfl hl.1 rfl (Nat.le_of_ble_eq_true rfl) dL_law_1108 hK hP (hD0.addr (wLw_fst.trans wLw_fst.symm)) hS hA [78, 79, 80, 81, 82, 83, 84, 85] (by decide +kernel) wC_m wJ_m (wLw_fst.trans wLw_fst.symm) rfl ⟨(by show cl + 1 ≤ 601024; omega), (by show sl + 6 ≤ 7293034; omega)⟩ (fun H locs hP hD hS => ?_)
                                  refine lv_istore (lv' := [(6, .int r_353), (5, .int r_346), (0, .ref b), (1, .ref (x0)), (2, .ref (mo 0)), (3, .ref (o0)), (4, .int x4)]) hx hb dL_law_1111 hl (by decide) rfl (fun ls hl => ?_)
                                  refine lv_aload_n hx hb dL_law_1113 rfl (lv_at hl 4 rfl) ?_
                                  obtain ⟨r_358, hc_359, hf⟩ := bd_of hf
                                  refine fn_V (v := some (.int r_358)) (As := []) (rest := []) (st1 := [.int r_358]) (ws' := ((wLR X x0 hh ht ch tx y hy rP fP rT fT rG fG rL fL rH fH gi di re ti rPT fPT rTT fTT rGT fGT rLT fLT rHT fHT giT diT reT tiT rS fS_347 rB fB rO fO pl fa cn ro Qh) ++ (wOut X o0 fo_348) ++ (wMo X mo al sv sm asd th_354 ho_355 fr_356 txt tl pos od nu su))) (nL := 9) ⟨hx, hb, hml, hown, hts⟩ (c_X6_thrown l X mo al sv sm asd th_354 ho_355 fr_356 txt tl pos od nu su r_358 hc_359) (cwV 0 hts gL_law_X6_thrown rfl rfl rfl (by decide +kernel) ⟨Nat.le_of_ble_eq_true rfl, Nat.le_of_ble_eq_true rfl⟩) 6 rfl rfl rfl rfl hl.1 rfl (Nat.le_of_ble_eq_true rfl) dL_law_1114 hK hP (hD0.addr (wLw_fst.trans wLw_fst.symm)) hS hA [78, 79, 80, 81, 82, 83, 84, 85] (by decide +kernel) wC_m (pt_setid _ _ _ wC_m) rfl ⟨(by show cl + 1 ≤ 601024; omega), (by show sl + 6 ≤ 7293034; omega)⟩ (fun H locs hP hD hS => ?_)
                                  refine lv_iload hx hb dL_law_1117 (lv_at hl 1 rfl) ?_
                                  refine lv_icmp_eq (tgt := 1124) hx hb dL_law_1119 (by decide) (fun c_360 => ?_) (fun c_360 => ?_)
                                  · replace hf := fp_t c_360 hf
                                    refine lv_iload hx hb dL_law_1124 (lv_at hl 1 rfl) ?_
                                    refine lv_if_ne (tgt := 1141) hx hb dL_law_1126 (by decide) (fun c_361 => ?_) (fun c_361 => ?_)
                                    · replace hf := fp_f c_361 hf
                                      refine lv_goto (tgt := 1814) hx hb dL_law_1141 (by decide) ?_
                                      obtain ⟨v_362, ev_362⟩ : ∃ y : Int32, y = x4 + (6 : Int32) := ⟨_, rfl⟩
                                      replace hf := nm_of ev_362 hf
                                      refine lv_iinc (v := v_362) (lv' := [(4, .int v_362), (6, .int r_353), (5, .int r_346), (0, .ref b), (1, .ref (x0)), (2, .ref (mo 0)), (3, .ref (o0))]) hx hb dL_law_1814 hl (k := 6) rfl (by rw [ev_362]; rfl) (by decide) rfl (fun ls hl => ?_)
                                      refine lv_goto (tgt := 23) hx hb dL_law_1817 (by decide) ?_
                                      exact ih v_362 rP fP rT fT rG fG rL fL rH fH gi di re ti rPT fPT rTT fTT rGT fGT rLT fLT rHT fHT giT diT reT tiT fS_347 rB fB rO fO pl fa cn ro Qh fo_348 al sv sm asd th_354 ho_355 fr_356 txt tl pos od nu su (cl + 1) (sl + 6) _ _ _ (by omega) (by omega) hf hP hS (lv_sub hl [3, 4, 5, 6, 0] rfl)
                                    · replace hf := fp_t c_361 hf
                                      refine lv_aload_n hx hb dL_law_1129 rfl (lv_at hl 5 rfl) ?_
                                      refine lv_iconst (v := 0) hx hb dL_law_1130 (by decide) ?_
                                      obtain ⟨hi_363, hf⟩ := ix_of hf
                                      refine va_lald hx hb hK.1 hP 77 1 (get_mid 77 rfl) rfl hi_363 dL_law_1131 ?_
                                      refine lv_iload hx hb dL_law_1132 (lv_at hl 0 rfl) ?_
                                      refine lv_i2l (v := r_353.toInt64) hx hb dL_law_1134 rfl ?_
                                      refine W.lcmp hx hb dL_law_1135 ?_
                                      refine lv_if_eq (tgt := 1141) hx hb dL_law_1136 (by decide) (fun c_364 => ?_) (fun c_364 => ?_)
                                      · replace hf := fp_t c_364 hf
                                        refine lv_goto (tgt := 1814) hx hb dL_law_1141 (by decide) ?_
                                        obtain ⟨v_365, ev_365⟩ : ∃ y : Int32, y = x4 + (6 : Int32) := ⟨_, rfl⟩
                                        replace hf := nm_of ev_365 hf
                                        refine lv_iinc (v := v_365) (lv' := [(4, .int v_365), (6, .int r_353), (5, .int r_346), (0, .ref b), (1, .ref (x0)), (2, .ref (mo 0)), (3, .ref (o0))]) hx hb dL_law_1814 hl (k := 6) rfl (by rw [ev_365]; rfl) (by decide) rfl (fun ls hl => ?_)
                                        refine lv_goto (tgt := 23) hx hb dL_law_1817 (by decide) ?_
                                        exact ih v_365 rP fP rT fT rG fG rL fL rH fH gi di re ti rPT fPT rTT fTT rGT fGT rLT fLT rHT fHT giT diT reT tiT fS_347 rB fB rO fO pl fa cn ro Qh fo_348 al sv sm asd th_354 ho_355 fr_356 txt tl pos od nu su (cl + 1) (sl + 6) _ _ _ (by omega) (by omega) hf hP hS (lv_sub hl [3, 4, 5, 6, 0] rfl)
                                      · replace hf := fp_f c_364 hf
                                        refine lv_iconst (v := 0) hx hb dL_law_1139 (by decide) ?_
                                        exact absurd (Option.some.inj hf) (by decide)
                                  · replace hf := fp_f c_360 hf
                                    refine lv_iconst (v := 0) hx hb dL_law_1122 (by decide) ?_
                                    exact absurd (Option.some.inj hf) (by decide)
                                · replace hf := fp_f c_342 hf
                                  by_cases c_366 : v_3 = (14 : Int32)
                                  · replace hf := fp_t c_366 hf
                                    refine lv_tableIn (off := 1104) (tgt := 1144) hx hb dL_law_40 (by rw [c_366]; decide) (by rw [c_366]; decide) (by rw [c_366]; rfl) (by decide) ?_
                                    refine lv_aload_n hx hb dL_law_1144 rfl (lv_at hl 1 rfl) ?_
                                    refine lv_aload_n hx hb dL_law_1145 rfl (lv_at hl 0 rfl) ?_
                                    refine lv_iload hx hb dL_law_1146 (lv_at hl 4 rfl) ?_
                                    refine lv_iconst (v := 1) hx hb dL_law_1148 (by decide) ?_
                                    refine lv_iadd hx hb dL_law_1149 ?_
                                    obtain ⟨hi_367, hf⟩ := ix_of hf
                                    refine va_sld hx hb hX hbl hbA hS hi_367 dL_law_1150 ?_
                                    refine lv_aload_n hx hb dL_law_1151 rfl (lv_at hl 0 rfl) ?_
                                    refine lv_iload hx hb dL_law_1152 (lv_at hl 4 rfl) ?_
                                    refine lv_iconst (v := 2) hx hb dL_law_1154 (by decide) ?_
                                    refine lv_iadd hx hb dL_law_1155 ?_
                                    obtain ⟨hi_368, hf⟩ := ix_of hf
                                    refine va_sld hx hb hX hbl hbA hS hi_368 dL_law_1156 ?_
                                    refine lv_aload_n hx hb dL_law_1157 rfl (lv_at hl 0 rfl) ?_
                                    refine lv_iload hx hb dL_law_1158 (lv_at hl 4 rfl) ?_
                                    refine lv_iconst (v := 3) hx hb dL_law_1160 (by decide) ?_
                                    refine lv_iadd hx hb dL_law_1161 ?_
                                    obtain ⟨hi_369, hf⟩ := ix_of hf
                                    refine va_sld hx hb hX hbl hbA hS hi_369 dL_law_1162 ?_
                                    refine lv_aload_n hx hb dL_law_1163 rfl (lv_at hl 3 rfl) ?_
                                    obtain ⟨r_370, fo_371, hc_372, hf⟩ := bd2_of hf
                                    refine fw_S (v := some (.int r_370)) (As := [.ref (x0), .int (xs (x4 + (1 : Int32)).toNatClampNeg), .int (xs (x4 + (2 : Int32)).toNatClampNeg), .int (xs (x4 + (3 : Int32)).toNatClampNeg), .ref (o0)]) (rest := []) (st1 := [.int r_370]) (ws' := ((wLR X x0 hh ht ch tx y hy rP fP rT fT rG fG rL fL rH fH gi di re ti rPT fPT rTT fTT rGT fGT rLT fLT rHT fHT giT diT reT tiT rS fS rB fB rO fO pl fa cn ro Qh) ++ (wOut X o0 fo_371) ++ (wMo X mo al sv sm asd th ho fr txt tl pos od nu su))) (nL := 9) ⟨hx, hb, hml, hown, hts⟩ (c_L_why l hfl X x0 hh ht ch tx y hy o0 rP fP rT fT rG fG rL fL rH fH gi di re ti rPT fPT rTT fTT rGT fGT rLT fLT rHT fHT giT diT reT tiT rS fS rB fB rO fO pl fa cn ro Qh fo (xs (x4 + (1 : Int32)).toNatClampNeg) (xs (x4 + (2 : Int32)).toNatClampNeg) (xs (x4 + (3 : Int32)).toNatClampNeg) r_370 fo_371 hc_372) (vx_cwSW 5 hts gL_law_L_why rfl rfl rfl (by decide +kernel) ⟨Nat.le_of_ble_eq_true rfl, Nat.le_of_ble_eq_true rfl⟩) rfl hl.1 rfl (Nat.le_of_ble_eq_true rfl) dL_law_1164 hTS hTZ hK hP (hD0.addr (wLw_fst.trans wLw_fst.symm)) hS hA [0, 1, 2, 3, 4, 5, 6, 7, 8, 9, 10, 11, 12, 13, 14, 15, 16, 17, 18, 19, 20, 21, 22, 23, 24, 25, 26, 27, 28, 29, 30, 31, 32, 33, 34, 35, 36, 37, 38, 39, 40, 41, 42, 43, 44, 45, 46, 47, 48, 49, 50, 51, 52, 53, 54, 55, 56, 57, 58, 59, 60, 61, 62, 63, 64, 65, 66, 67, 68, 69, 70, 71, 72, 73, 74, 75, 76, 77] (by decide +kernel) wC_w wJ_w (wLw_fst.trans wLw_fst.symm) rfl ⟨(by show cl + 1 ≤ 601024; omega), (by show sl + 6 ≤ 7293034; omega)⟩ (fun H locs hP hD hS => ?_)
                                    refine lv_istore (lv' := [(5, .int r_370), (0, .ref b), (1, .ref (x0)), (2, .ref (mo 0)), (3, .ref (o0)), (4, .int x4)]) hx hb dL_law_1167 hl (by decide) rfl (fun ls hl => ?_)
                                    refine lv_aload_n hx hb dL_law_1169 rfl (lv_at hl 3 rfl) ?_
                                    refine lv_aload_n hx hb dL_law_1170 rfl (lv_at hl 1 rfl) ?_
                                    refine lv_iload hx hb dL_law_1171 (lv_at hl 5 rfl) ?_
                                    refine lv_iconst (v := 1) hx hb dL_law_1173 (by decide) ?_
                                    refine lv_iadd hx hb dL_law_1174 ?_
                                    obtain ⟨hi_373, hf⟩ := ix_of hf
                                    refine va_sld hx hb hX hbl hbA hS hi_373 dL_law_1175 ?_
                                    refine lv_aload_n hx hb dL_law_1176 rfl (lv_at hl 1 rfl) ?_
                                    refine lv_iload hx hb dL_law_1177 (lv_at hl 5 rfl) ?_
                                    refine lv_iconst (v := 2) hx hb dL_law_1179 (by decide) ?_
                                    refine lv_iadd hx hb dL_law_1180 ?_
                                    obtain ⟨hi_374, hf⟩ := ix_of hf
                                    refine va_sld hx hb hX hbl hbA hS hi_374 dL_law_1181 ?_
                                    refine lv_aload_n hx hb dL_law_1182 rfl (lv_at hl 1 rfl) ?_
                                    refine lv_iload hx hb dL_law_1183 (lv_at hl 5 rfl) ?_
                                    refine lv_iconst (v := 3) hx hb dL_law_1185 (by decide) ?_
                                    refine lv_iadd hx hb dL_law_1186 ?_
                                    obtain ⟨hi_375, hf⟩ := ix_of hf
                                    refine va_sld hx hb hX hbl hbA hS hi_375 dL_law_1187 ?_
                                    obtain ⟨r_376, th_377, ho_378, hc_379, hf⟩ := bd3_of hf
                                    refine fn_VJ (v := some (.int r_376)) (As := [.int (xs (x4 + (1 : Int32)).toNatClampNeg), .int (xs (x4 + (2 : Int32)).toNatClampNeg), .int (xs (x4 + (3 : Int32)).toNatClampNeg)]) (rest := []) (st1 := [.int r_376]) (ws' := ((wLR X x0 hh ht ch tx y hy rP fP rT fT rG fG rL fL rH fH gi di re ti rPT fPT rTT fTT rGT fGT rLT fLT rHT fHT giT diT reT tiT rS fS rB fB rO fO pl fa cn ro Qh) ++ (wOut X o0 fo_371) ++ (wMo X mo al sv sm asd th_377 ho_378 fr txt tl pos od nu su))) (nL := 9) ⟨hx, hb, hml, hown, hts⟩ (c_X6_why l X mo al sv sm asd th ho fr txt tl pos od nu su (xs (x4 + (1 : Int32)).toNatClampNeg) (xs (x4 + (2 : Int32)).toNatClampNeg) (xs (x4 + (3 : Int32)).toNatClampNeg) r_376 th_377 ho_378 hc_379) (cwV 3 hts gL_law_X6_why rfl rfl rfl (by decide +kernel) ⟨Nat.le_of_ble_eq_true rfl, Nat.le_of_ble_eq_true rfl⟩) 6 rfl rfl rfl rfl hl.1 rfl (Nat.le_of_ble_eq_true rfl) dL_law_1188 hK hP (hD0.addr (wLw_fst.trans wLw_fst.symm)) hS hA [78, 79, 80, 81, 82, 83, 84, 85] (by decide +kernel) wC_m wJ_m (wLw_fst.trans wLw_fst.symm) rfl ⟨(by show cl + 1 ≤ 601024; omega), (by show sl + 6 ≤ 7293034; omega)⟩ (fun H locs hP hD hS => ?_)
                                    refine lv_istore (lv' := [(6, .int r_376), (5, .int r_370), (0, .ref b), (1, .ref (x0)), (2, .ref (mo 0)), (3, .ref (o0)), (4, .int x4)]) hx hb dL_law_1191 hl (by decide) rfl (fun ls hl => ?_)
                                    refine lv_aload_n hx hb dL_law_1193 rfl (lv_at hl 4 rfl) ?_
                                    obtain ⟨r_380, hc_381, hf⟩ := bd_of hf
                                    refine fn_V (v := some (.int r_380)) (As := []) (rest := []) (st1 := [.int r_380]) (ws' := ((wLR X x0 hh ht ch tx y hy rP fP rT fT rG fG rL fL rH fH gi di re ti rPT fPT rTT fTT rGT fGT rLT fLT rHT fHT giT diT reT tiT rS fS rB fB rO fO pl fa cn ro Qh) ++ (wOut X o0 fo_371) ++ (wMo X mo al sv sm asd th_377 ho_378 fr txt tl pos od nu su))) (nL := 9) ⟨hx, hb, hml, hown, hts⟩ (c_X6_thrown l X mo al sv sm asd th_377 ho_378 fr txt tl pos od nu su r_380 hc_381) (cwV 0 hts gL_law_X6_thrown rfl rfl rfl (by decide +kernel) ⟨Nat.le_of_ble_eq_true rfl, Nat.le_of_ble_eq_true rfl⟩) 6 rfl rfl rfl rfl hl.1 rfl (Nat.le_of_ble_eq_true rfl) dL_law_1194 hK hP (hD0.addr (wLw_fst.trans wLw_fst.symm)) hS hA [78, 79, 80, 81, 82, 83, 84, 85] (by decide +kernel) wC_m (pt_setid _ _ _ wC_m) rfl ⟨(by show cl + 1 ≤ 601024; omega), (by show sl + 6 ≤ 7293034; omega)⟩ (fun H locs hP hD hS => ?_)
                                    refine lv_iload hx hb dL_law_1197 (lv_at hl 1 rfl) ?_
                                    refine lv_icmp_eq (tgt := 1204) hx hb dL_law_1199 (by decide) (fun c_382 => ?_) (fun c_382 => ?_)
                                    · replace hf := fp_t c_382 hf
                                      refine lv_iload hx hb dL_law_1204 (lv_at hl 1 rfl) ?_
                                      refine lv_if_ne (tgt := 1221) hx hb dL_law_1206 (by decide) (fun c_383 => ?_) (fun c_383 => ?_)
                                      · replace hf := fp_f c_383 hf
                                        refine lv_goto (tgt := 1814) hx hb dL_law_1221 (by decide) ?_
                                        obtain ⟨v_384, ev_384⟩ : ∃ y : Int32, y = x4 + (6 : Int32) := ⟨_, rfl⟩
                                        replace hf := nm_of ev_384 hf
                                        refine lv_iinc (v := v_384) (lv' := [(4, .int v_384), (6, .int r_376), (5, .int r_370), (0, .ref b), (1, .ref (x0)), (2, .ref (mo 0)), (3, .ref (o0))]) hx hb dL_law_1814 hl (k := 6) rfl (by rw [ev_384]; rfl) (by decide) rfl (fun ls hl => ?_)
                                        refine lv_goto (tgt := 23) hx hb dL_law_1817 (by decide) ?_
                                        exact ih v_384 rP fP rT fT rG fG rL fL rH fH gi di re ti rPT fPT rTT fTT rGT fGT rLT fLT rHT fHT giT diT reT tiT fS rB fB rO fO pl fa cn ro Qh fo_371 al sv sm asd th_377 ho_378 fr txt tl pos od nu su (cl + 1) (sl + 6) _ _ _ (by omega) (by omega) hf hP hS (lv_sub hl [3, 4, 5, 6, 0] rfl)
                                      · replace hf := fp_t c_383 hf
                                        refine lv_aload_n hx hb dL_law_1209 rfl (lv_at hl 5 rfl) ?_
                                        refine lv_iconst (v := 0) hx hb dL_law_1210 (by decide) ?_
                                        obtain ⟨hi_385, hf⟩ := ix_of hf
                                        refine va_lald hx hb hK.1 hP 77 1 (get_mid 77 rfl) rfl hi_385 dL_law_1211 ?_
                                        refine lv_iload hx hb dL_law_1212 (lv_at hl 0 rfl) ?_
                                        refine lv_i2l (v := r_376.toInt64) hx hb dL_law_1214 rfl ?_
                                        refine W.lcmp hx hb dL_law_1215 ?_
                                        refine lv_if_eq (tgt := 1221) hx hb dL_law_1216 (by decide) (fun c_386 => ?_) (fun c_386 => ?_)
                                        · replace hf := fp_t c_386 hf
                                          refine lv_goto (tgt := 1814) hx hb dL_law_1221 (by decide) ?_
                                          obtain ⟨v_387, ev_387⟩ : ∃ y : Int32, y = x4 + (6 : Int32) := ⟨_, rfl⟩
                                          replace hf := nm_of ev_387 hf
                                          refine lv_iinc (v := v_387) (lv' := [(4, .int v_387), (6, .int r_376), (5, .int r_370), (0, .ref b), (1, .ref (x0)), (2, .ref (mo 0)), (3, .ref (o0))]) hx hb dL_law_1814 hl (k := 6) rfl (by rw [ev_387]; rfl) (by decide) rfl (fun ls hl => ?_)
                                          refine lv_goto (tgt := 23) hx hb dL_law_1817 (by decide) ?_
                                          exact ih v_387 rP fP rT fT rG fG rL fL rH fH gi di re ti rPT fPT rTT fTT rGT fGT rLT fLT rHT fHT giT diT reT tiT fS rB fB rO fO pl fa cn ro Qh fo_371 al sv sm asd th_377 ho_378 fr txt tl pos od nu su (cl + 1) (sl + 6) _ _ _ (by omega) (by omega) hf hP hS (lv_sub hl [3, 4, 5, 6, 0] rfl)
                                        · replace hf := fp_f c_386 hf
                                          refine lv_iconst (v := 0) hx hb dL_law_1219 (by decide) ?_
                                          exact absurd (Option.some.inj hf) (by decide)
                                    · replace hf := fp_f c_382 hf
                                      refine lv_iconst (v := 0) hx hb dL_law_1202 (by decide) ?_
                                      exact absurd (Option.some.inj hf) (by decide)
                                  · replace hf := fp_f c_366 hf
                                    by_cases c_388 : v_3 = (15 : Int32)
                                    · replace hf := fp_t c_388 hf
                                      refine lv_tableIn (off := 1184) (tgt := 1224) hx hb dL_law_40 (by rw [c_388]; decide) (by rw [c_388]; decide) (by rw [c_388]; rfl) (by decide) ?_
                                      refine lv_aload_n hx hb dL_law_1224 rfl (lv_at hl 1 rfl) ?_
                                      refine lv_aload_n hx hb dL_law_1225 rfl (lv_at hl 0 rfl) ?_
                                      refine lv_iload hx hb dL_law_1226 (lv_at hl 4 rfl) ?_
                                      refine lv_iconst (v := 1) hx hb dL_law_1228 (by decide) ?_
                                      refine lv_iadd hx hb dL_law_1229 ?_
                                      obtain ⟨hi_389, hf⟩ := ix_of hf
                                      refine va_sld hx hb hX hbl hbA hS hi_389 dL_law_1230 ?_
                                      refine lv_aload_n hx hb dL_law_1231 rfl (lv_at hl 3 rfl) ?_
                                      obtain ⟨r_390, fo_391, hc_392, hf⟩ := bd2_of hf
                                      refine fw_S (v := some (.int r_390)) (As := [.ref (x0), .int (xs (x4 + (1 : Int32)).toNatClampNeg), .ref (o0)]) (rest := []) (st1 := [.int r_390]) (ws' := ((wLR X x0 hh ht ch tx y hy rP fP rT fT rG fG rL fL rH fH gi di re ti rPT fPT rTT fTT rGT fGT rLT fLT rHT fHT giT diT reT tiT rS fS rB fB rO fO pl fa cn ro Qh) ++ (wOut X o0 fo_391) ++ (wMo X mo al sv sm asd th ho fr txt tl pos od nu su))) (nL := 9) ⟨hx, hb, hml, hown, hts⟩ (c_L_value l hfl X x0 hh ht ch tx y hy o0 rP fP rT fT rG fG rL fL rH fH gi di re ti rPT fPT rTT fTT rGT fGT rLT fLT rHT fHT giT diT reT tiT rS fS rB fB rO fO pl fa cn ro Qh fo (xs (x4 + (1 : Int32)).toNatClampNeg) r_390 fo_391 hc_392) (vx_cwSW 3 hts gL_law_L_value rfl rfl rfl (by decide +kernel) ⟨Nat.le_of_ble_eq_true rfl, Nat.le_of_ble_eq_true rfl⟩) rfl hl.1 rfl (Nat.le_of_ble_eq_true rfl) dL_law_1232 hTS hTZ hK hP (hD0.addr (wLw_fst.trans wLw_fst.symm)) hS hA [0, 1, 2, 3, 4, 5, 6, 7, 8, 9, 10, 11, 12, 13, 14, 15, 16, 17, 18, 19, 20, 21, 22, 23, 24, 25, 26, 27, 28, 29, 30, 31, 32, 33, 34, 35, 36, 37, 38, 39, 40, 41, 42, 43, 44, 45, 46, 47, 48, 49, 50, 51, 52, 53, 54, 55, 56, 57, 58, 59, 60, 61, 62, 63, 64, 65, 66, 67, 68, 69, 70, 71, 72, 73, 74, 75, 76, 77] (by decide +kernel) wC_w wJ_w (wLw_fst.trans wLw_fst.symm) rfl ⟨(by show cl + 1 ≤ 601024; omega), (by show sl + 6 ≤ 7293034; omega)⟩ (fun H locs hP hD hS => ?_)
                                      refine lv_istore (lv' := [(5, .int r_390), (0, .ref b), (1, .ref (x0)), (2, .ref (mo 0)), (3, .ref (o0)), (4, .int x4)]) hx hb dL_law_1235 hl (by decide) rfl (fun ls hl => ?_)
                                      refine lv_aload_n hx hb dL_law_1237 rfl (lv_at hl 3 rfl) ?_
                                      refine lv_aload_n hx hb dL_law_1238 rfl (lv_at hl 1 rfl) ?_
                                      refine lv_iload hx hb dL_law_1239 (lv_at hl 5 rfl) ?_
                                      refine lv_iconst (v := 1) hx hb dL_law_1241 (by decide) ?_
                                      refine lv_iadd hx hb dL_law_1242 ?_
                                      obtain ⟨hi_393, hf⟩ := ix_of hf
                                      refine va_sld hx hb hX hbl hbA hS hi_393 dL_law_1243 ?_
                                      obtain ⟨r_394, th_395, ho_396, hc_397, hf⟩ := bd3_of hf
                                      refine fn_VJ (v := some (.int r_394)) (As := [.int (xs (x4 + (1 : Int32)).toNatClampNeg)]) (rest := []) (st1 := [.int r_394]) (ws' := ((wLR X x0 hh ht ch tx y hy rP fP rT fT rG fG rL fL rH fH gi di re ti rPT fPT rTT fTT rGT fGT rLT fLT rHT fHT giT diT reT tiT rS fS rB fB rO fO pl fa cn ro Qh) ++ (wOut X o0 fo_391) ++ (wMo X mo al sv sm asd th_395 ho_396 fr txt tl pos od nu su))) (nL := 9) ⟨hx, hb, hml, hown, hts⟩ (c_X6_value l X mo al sv sm asd th ho fr txt tl pos od nu su (xs (x4 + (1 : Int32)).toNatClampNeg) r_394 th_395 ho_396 hc_397) (cwV 1 hts gL_law_X6_value rfl rfl rfl (by decide +kernel) ⟨Nat.le_of_ble_eq_true rfl, Nat.le_of_ble_eq_true rfl⟩) 6 rfl rfl rfl rfl hl.1 rfl (Nat.le_of_ble_eq_true rfl) dL_law_1244 hK hP (hD0.addr (wLw_fst.trans wLw_fst.symm)) hS hA [78, 79, 80, 81, 82, 83, 84, 85] (by decide +kernel) wC_m wJ_m (wLw_fst.trans wLw_fst.symm) rfl ⟨(by show cl + 1 ≤ 601024; omega), (by show sl + 6 ≤ 7293034; omega)⟩ (fun H locs hP hD hS => ?_)
                                      refine lv_istore (lv' := [(6, .int r_394), (5, .int r_390), (0, .ref b), (1, .ref (x0)), (2, .ref (mo 0)), (3, .ref (o0)), (4, .int x4)]) hx hb dL_law_1247 hl (by decide) rfl (fun ls hl => ?_)
                                      refine lv_aload_n hx hb dL_law_1249 rfl (lv_at hl 4 rfl) ?_
                                      obtain ⟨r_398, hc_399, hf⟩ := bd_of hf
                                      refine fn_V (v := some (.int r_398)) (As := []) (rest := []) (st1 := [.int r_398]) (ws' := ((wLR X x0 hh ht ch tx y hy rP fP rT fT rG fG rL fL rH fH gi di re ti rPT fPT rTT fTT rGT fGT rLT fLT rHT fHT giT diT reT tiT rS fS rB fB rO fO pl fa cn ro Qh) ++ (wOut X o0 fo_391) ++ (wMo X mo al sv sm asd th_395 ho_396 fr txt tl pos od nu su))) (nL := 9) ⟨hx, hb, hml, hown, hts⟩ (c_X6_thrown l X mo al sv sm asd th_395 ho_396 fr txt tl pos od nu su r_398 hc_399) (cwV 0 hts gL_law_X6_thrown rfl rfl rfl (by decide +kernel) ⟨Nat.le_of_ble_eq_true rfl, Nat.le_of_ble_eq_true rfl⟩) 6 rfl rfl rfl rfl hl.1 rfl (Nat.le_of_ble_eq_true rfl) dL_law_1250 hK hP (hD0.addr (wLw_fst.trans wLw_fst.symm)) hS hA [78, 79, 80, 81, 82, 83, 84, 85] (by decide +kernel) wC_m (pt_setid _ _ _ wC_m) rfl ⟨(by show cl + 1 ≤ 601024; omega), (by show sl + 6 ≤ 7293034; omega)⟩ (fun H locs hP hD hS => ?_)
                                      refine lv_iload hx hb dL_law_1253 (lv_at hl 1 rfl) ?_
                                      refine lv_icmp_eq (tgt := 1260) hx hb dL_law_1255 (by decide) (fun c_400 => ?_) (fun c_400 => ?_)
                                      · replace hf := fp_t c_400 hf
                                        refine lv_iload hx hb dL_law_1260 (lv_at hl 1 rfl) ?_
                                        refine lv_if_ne (tgt := 1277) hx hb dL_law_1262 (by decide) (fun c_401 => ?_) (fun c_401 => ?_)
                                        · replace hf := fp_f c_401 hf
                                          refine lv_goto (tgt := 1814) hx hb dL_law_1277 (by decide) ?_
                                          obtain ⟨v_402, ev_402⟩ : ∃ y : Int32, y = x4 + (6 : Int32) := ⟨_, rfl⟩
                                          replace hf := nm_of ev_402 hf
                                          refine lv_iinc (v := v_402) (lv' := [(4, .int v_402), (6, .int r_394), (5, .int r_390), (0, .ref b), (1, .ref (x0)), (2, .ref (mo 0)), (3, .ref (o0))]) hx hb dL_law_1814 hl (k := 6) rfl (by rw [ev_402]; rfl) (by decide) rfl (fun ls hl => ?_)
                                          refine lv_goto (tgt := 23) hx hb dL_law_1817 (by decide) ?_
                                          exact ih v_402 rP fP rT fT rG fG rL fL rH fH gi di re ti rPT fPT rTT fTT rGT fGT rLT fLT rHT fHT giT diT reT tiT fS rB fB rO fO pl fa cn ro Qh fo_391 al sv sm asd th_395 ho_396 fr txt tl pos od nu su (cl + 1) (sl + 6) _ _ _ (by omega) (by omega) hf hP hS (lv_sub hl [3, 4, 5, 6, 0] rfl)
                                        · replace hf := fp_t c_401 hf
                                          refine lv_aload_n hx hb dL_law_1265 rfl (lv_at hl 5 rfl) ?_
                                          refine lv_iconst (v := 0) hx hb dL_law_1266 (by decide) ?_
                                          obtain ⟨hi_403, hf⟩ := ix_of hf
                                          refine va_lald hx hb hK.1 hP 77 1 (get_mid 77 rfl) rfl hi_403 dL_law_1267 ?_
                                          refine lv_iload hx hb dL_law_1268 (lv_at hl 0 rfl) ?_
                                          refine lv_i2l (v := r_394.toInt64) hx hb dL_law_1270 rfl ?_
                                          refine W.lcmp hx hb dL_law_1271 ?_
                                          refine lv_if_eq (tgt := 1277) hx hb dL_law_1272 (by decide) (fun c_404 => ?_) (fun c_404 => ?_)
                                          · replace hf := fp_t c_404 hf
                                            refine lv_goto (tgt := 1814) hx hb dL_law_1277 (by decide) ?_
                                            obtain ⟨v_405, ev_405⟩ : ∃ y : Int32, y = x4 + (6 : Int32) := ⟨_, rfl⟩
                                            replace hf := nm_of ev_405 hf
                                            refine lv_iinc (v := v_405) (lv' := [(4, .int v_405), (6, .int r_394), (5, .int r_390), (0, .ref b), (1, .ref (x0)), (2, .ref (mo 0)), (3, .ref (o0))]) hx hb dL_law_1814 hl (k := 6) rfl (by rw [ev_405]; rfl) (by decide) rfl (fun ls hl => ?_)
                                            refine lv_goto (tgt := 23) hx hb dL_law_1817 (by decide) ?_
                                            exact ih v_405 rP fP rT fT rG fG rL fL rH fH gi di re ti rPT fPT rTT fTT rGT fGT rLT fLT rHT fHT giT diT reT tiT fS rB fB rO fO pl fa cn ro Qh fo_391 al sv sm asd th_395 ho_396 fr txt tl pos od nu su (cl + 1) (sl + 6) _ _ _ (by omega) (by omega) hf hP hS (lv_sub hl [3, 4, 5, 6, 0] rfl)
                                          · replace hf := fp_f c_404 hf
                                            refine lv_iconst (v := 0) hx hb dL_law_1275 (by decide) ?_
                                            exact absurd (Option.some.inj hf) (by decide)
                                      · replace hf := fp_f c_400 hf
                                        refine lv_iconst (v := 0) hx hb dL_law_1258 (by decide) ?_
                                        exact absurd (Option.some.inj hf) (by decide)
                                    · replace hf := fp_f c_388 hf
                                      by_cases c_406 : v_3 = (16 : Int32)
                                      · replace hf := fp_t c_406 hf
                                        refine lv_tableIn (off := 1240) (tgt := 1280) hx hb dL_law_40 (by rw [c_406]; decide) (by rw [c_406]; decide) (by rw [c_406]; rfl) (by decide) ?_
                                        refine lv_aload_n hx hb dL_law_1280 rfl (lv_at hl 1 rfl) ?_
                                        refine lv_aload_n hx hb dL_law_1281 rfl (lv_at hl 0 rfl) ?_
                                        refine lv_iload hx hb dL_law_1282 (lv_at hl 4 rfl) ?_
                                        refine lv_iconst (v := 1) hx hb dL_law_1284 (by decide) ?_
                                        refine lv_iadd hx hb dL_law_1285 ?_
                                        obtain ⟨hi_407, hf⟩ := ix_of hf
                                        refine va_sld hx hb hX hbl hbA hS hi_407 dL_law_1286 ?_
                                        refine lv_aload_n hx hb dL_law_1287 rfl (lv_at hl 0 rfl) ?_
                                        refine lv_iload hx hb dL_law_1288 (lv_at hl 4 rfl) ?_
                                        refine lv_iconst (v := 2) hx hb dL_law_1290 (by decide) ?_
                                        refine lv_iadd hx hb dL_law_1291 ?_
                                        obtain ⟨hi_408, hf⟩ := ix_of hf
                                        refine va_sld hx hb hX hbl hbA hS hi_408 dL_law_1292 ?_
                                        refine lv_aload_n hx hb dL_law_1293 rfl (lv_at hl 3 rfl) ?_
                                        obtain ⟨r_409, fo_410, hc_411, hf⟩ := bd2_of hf
                                        refine fw_S (v := some (.int r_409)) (As := [.ref (x0), .int (xs (x4 + (1 : Int32)).toNatClampNeg), .int (xs (x4 + (2 : Int32)).toNatClampNeg), .ref (o0)]) (rest := []) (st1 := [.int r_409]) (ws' := ((wLR X x0 hh ht ch tx y hy rP fP rT fT rG fG rL fL rH fH gi di re ti rPT fPT rTT fTT rGT fGT rLT fLT rHT fHT giT diT reT tiT rS fS rB fB rO fO pl fa cn ro Qh) ++ (wOut X o0 fo_410) ++ (wMo X mo al sv sm asd th ho fr txt tl pos od nu su))) (nL := 9) ⟨hx, hb, hml, hown, hts⟩ (c_L_entry l hfl X x0 hh ht ch tx y hy o0 rP fP rT fT rG fG rL fL rH fH gi di re ti rPT fPT rTT fTT rGT fGT rLT fLT rHT fHT giT diT reT tiT rS fS rB fB rO fO pl fa cn ro Qh fo (xs (x4 + (1 : Int32)).toNatClampNeg) (xs (x4 + (2 : Int32)).toNatClampNeg) r_409 fo_410 hc_411) (vx_cwSW 4 hts gL_law_L_entry rfl rfl rfl (by decide +kernel) ⟨Nat.le_of_ble_eq_true rfl, Nat.le_of_ble_eq_true rfl⟩) rfl hl.1 rfl (Nat.le_of_ble_eq_true rfl) dL_law_1294 hTS hTZ hK hP (hD0.addr (wLw_fst.trans wLw_fst.symm)) hS hA [0, 1, 2, 3, 4, 5, 6, 7, 8, 9, 10, 11, 12, 13, 14, 15, 16, 17, 18, 19, 20, 21, 22, 23, 24, 25, 26, 27, 28, 29, 30, 31, 32, 33, 34, 35, 36, 37, 38, 39, 40, 41, 42, 43, 44, 45, 46, 47, 48, 49, 50, 51, 52, 53, 54, 55, 56, 57, 58, 59, 60, 61, 62, 63, 64, 65, 66, 67, 68, 69, 70, 71, 72, 73, 74, 75, 76, 77] (by decide +kernel) wC_w wJ_w (wLw_fst.trans wLw_fst.symm) rfl ⟨(by show cl + 1 ≤ 601024; omega), (by show sl + 6 ≤ 7293034; omega)⟩ (fun H locs hP hD hS => ?_)
                                        refine lv_istore (lv' := [(5, .int r_409), (0, .ref b), (1, .ref (x0)), (2, .ref (mo 0)), (3, .ref (o0)), (4, .int x4)]) hx hb dL_law_1297 hl (by decide) rfl (fun ls hl => ?_)
                                        refine lv_aload_n hx hb dL_law_1299 rfl (lv_at hl 3 rfl) ?_
                                        refine lv_aload_n hx hb dL_law_1300 rfl (lv_at hl 1 rfl) ?_
                                        refine lv_iload hx hb dL_law_1301 (lv_at hl 5 rfl) ?_
                                        refine lv_iconst (v := 1) hx hb dL_law_1303 (by decide) ?_
                                        refine lv_iadd hx hb dL_law_1304 ?_
                                        obtain ⟨hi_412, hf⟩ := ix_of hf
                                        refine va_sld hx hb hX hbl hbA hS hi_412 dL_law_1305 ?_
                                        refine lv_aload_n hx hb dL_law_1306 rfl (lv_at hl 1 rfl) ?_
                                        refine lv_iload hx hb dL_law_1307 (lv_at hl 5 rfl) ?_
                                        refine lv_iconst (v := 2) hx hb dL_law_1309 (by decide) ?_
                                        refine lv_iadd hx hb dL_law_1310 ?_
                                        obtain ⟨hi_413, hf⟩ := ix_of hf
                                        refine va_sld hx hb hX hbl hbA hS hi_413 dL_law_1311 ?_
                                        obtain ⟨r_414, th_415, hc_416, hf⟩ := bd2_of hf
                                        refine fn_VJ (v := some (.int r_414)) (As := [.int (xs (x4 + (1 : Int32)).toNatClampNeg), .int (xs (x4 + (2 : Int32)).toNatClampNeg)]) (rest := []) (st1 := [.int r_414]) (ws' := ((wLR X x0 hh ht ch tx y hy rP fP rT fT rG fG rL fL rH fH gi di re ti rPT fPT rTT fTT rGT fGT rLT fLT rHT fHT giT diT reT tiT rS fS rB fB rO fO pl fa cn ro Qh) ++ (wOut X o0 fo_410) ++ (wMo X mo al sv sm asd th_415 ho fr txt tl pos od nu su))) (nL := 9) ⟨hx, hb, hml, hown, hts⟩ (c_X6_entry l X mo al sv sm asd th ho fr txt tl pos od nu su (xs (x4 + (1 : Int32)).toNatClampNeg) (xs (x4 + (2 : Int32)).toNatClampNeg) r_414 th_415 hc_416) (cwV 2 hts gL_law_X6_entry rfl rfl rfl (by decide +kernel) ⟨Nat.le_of_ble_eq_true rfl, Nat.le_of_ble_eq_true rfl⟩) 6 rfl rfl rfl rfl hl.1 rfl (Nat.le_of_ble_eq_true rfl) dL_law_1312 hK hP (hD0.addr (wLw_fst.trans wLw_fst.symm)) hS hA [78, 79, 80, 81, 82, 83, 84, 85] (by decide +kernel) wC_m wJ_m (wLw_fst.trans wLw_fst.symm) rfl ⟨(by show cl + 1 ≤ 601024; omega), (by show sl + 6 ≤ 7293034; omega)⟩ (fun H locs hP hD hS => ?_)
                                        refine lv_istore (lv' := [(6, .int r_414), (5, .int r_409), (0, .ref b), (1, .ref (x0)), (2, .ref (mo 0)), (3, .ref (o0)), (4, .int x4)]) hx hb dL_law_1315 hl (by decide) rfl (fun ls hl => ?_)
                                        refine lv_aload_n hx hb dL_law_1317 rfl (lv_at hl 4 rfl) ?_
                                        obtain ⟨r_417, hc_418, hf⟩ := bd_of hf
                                        refine fn_V (v := some (.int r_417)) (As := []) (rest := []) (st1 := [.int r_417]) (ws' := ((wLR X x0 hh ht ch tx y hy rP fP rT fT rG fG rL fL rH fH gi di re ti rPT fPT rTT fTT rGT fGT rLT fLT rHT fHT giT diT reT tiT rS fS rB fB rO fO pl fa cn ro Qh) ++ (wOut X o0 fo_410) ++ (wMo X mo al sv sm asd th_415 ho fr txt tl pos od nu su))) (nL := 9) ⟨hx, hb, hml, hown, hts⟩ (c_X6_thrown l X mo al sv sm asd th_415 ho fr txt tl pos od nu su r_417 hc_418) (cwV 0 hts gL_law_X6_thrown rfl rfl rfl (by decide +kernel) ⟨Nat.le_of_ble_eq_true rfl, Nat.le_of_ble_eq_true rfl⟩) 6 rfl rfl rfl rfl hl.1 rfl (Nat.le_of_ble_eq_true rfl) dL_law_1318 hK hP (hD0.addr (wLw_fst.trans wLw_fst.symm)) hS hA [78, 79, 80, 81, 82, 83, 84, 85] (by decide +kernel) wC_m (pt_setid _ _ _ wC_m) rfl ⟨(by show cl + 1 ≤ 601024; omega), (by show sl + 6 ≤ 7293034; omega)⟩ (fun H locs hP hD hS => ?_)
                                        refine lv_iload hx hb dL_law_1321 (lv_at hl 1 rfl) ?_
                                        refine lv_icmp_eq (tgt := 1328) hx hb dL_law_1323 (by decide) (fun c_419 => ?_) (fun c_419 => ?_)
                                        · replace hf := fp_t c_419 hf
                                          refine lv_iload hx hb dL_law_1328 (lv_at hl 1 rfl) ?_
                                          refine lv_if_ne (tgt := 1345) hx hb dL_law_1330 (by decide) (fun c_420 => ?_) (fun c_420 => ?_)
                                          · replace hf := fp_f c_420 hf
                                            refine lv_goto (tgt := 1814) hx hb dL_law_1345 (by decide) ?_
                                            obtain ⟨v_421, ev_421⟩ : ∃ y : Int32, y = x4 + (6 : Int32) := ⟨_, rfl⟩
                                            replace hf := nm_of ev_421 hf
                                            refine lv_iinc (v := v_421) (lv' := [(4, .int v_421), (6, .int r_414), (5, .int r_409), (0, .ref b), (1, .ref (x0)), (2, .ref (mo 0)), (3, .ref (o0))]) hx hb dL_law_1814 hl (k := 6) rfl (by rw [ev_421]; rfl) (by decide) rfl (fun ls hl => ?_)
                                            refine lv_goto (tgt := 23) hx hb dL_law_1817 (by decide) ?_
                                            exact ih v_421 rP fP rT fT rG fG rL fL rH fH gi di re ti rPT fPT rTT fTT rGT fGT rLT fLT rHT fHT giT diT reT tiT fS rB fB rO fO pl fa cn ro Qh fo_410 al sv sm asd th_415 ho fr txt tl pos od nu su (cl + 1) (sl + 6) _ _ _ (by omega) (by omega) hf hP hS (lv_sub hl [3, 4, 5, 6, 0] rfl)
                                          · replace hf := fp_t c_420 hf
                                            refine lv_aload_n hx hb dL_law_1333 rfl (lv_at hl 5 rfl) ?_
                                            refine lv_iconst (v := 0) hx hb dL_law_1334 (by decide) ?_
                                            obtain ⟨hi_422, hf⟩ := ix_of hf
                                            refine va_lald hx hb hK.1 hP 77 1 (get_mid 77 rfl) rfl hi_422 dL_law_1335 ?_
                                            refine lv_iload hx hb dL_law_1336 (lv_at hl 0 rfl) ?_
                                            refine lv_i2l (v := r_414.toInt64) hx hb dL_law_1338 rfl ?_
                                            refine W.lcmp hx hb dL_law_1339 ?_
                                            refine lv_if_eq (tgt := 1345) hx hb dL_law_1340 (by decide) (fun c_423 => ?_) (fun c_423 => ?_)
                                            · replace hf := fp_t c_423 hf
                                              refine lv_goto (tgt := 1814) hx hb dL_law_1345 (by decide) ?_
                                              obtain ⟨v_424, ev_424⟩ : ∃ y : Int32, y = x4 + (6 : Int32) := ⟨_, rfl⟩
                                              replace hf := nm_of ev_424 hf
                                              refine lv_iinc (v := v_424) (lv' := [(4, .int v_424), (6, .int r_414), (5, .int r_409), (0, .ref b), (1, .ref (x0)), (2, .ref (mo 0)), (3, .ref (o0))]) hx hb dL_law_1814 hl (k := 6) rfl (by rw [ev_424]; rfl) (by decide) rfl (fun ls hl => ?_)
                                              refine lv_goto (tgt := 23) hx hb dL_law_1817 (by decide) ?_
                                              exact ih v_424 rP fP rT fT rG fG rL fL rH fH gi di re ti rPT fPT rTT fTT rGT fGT rLT fLT rHT fHT giT diT reT tiT fS rB fB rO fO pl fa cn ro Qh fo_410 al sv sm asd th_415 ho fr txt tl pos od nu su (cl + 1) (sl + 6) _ _ _ (by omega) (by omega) hf hP hS (lv_sub hl [3, 4, 5, 6, 0] rfl)
                                            · replace hf := fp_f c_423 hf
                                              refine lv_iconst (v := 0) hx hb dL_law_1343 (by decide) ?_
                                              exact absurd (Option.some.inj hf) (by decide)
                                        · replace hf := fp_f c_419 hf
                                          refine lv_iconst (v := 0) hx hb dL_law_1326 (by decide) ?_
                                          exact absurd (Option.some.inj hf) (by decide)
                                      · replace hf := fp_f c_406 hf
                                        by_cases c_425 : v_3 = (17 : Int32)
                                        · replace hf := fp_t c_425 hf
                                          refine lv_tableIn (off := 1308) (tgt := 1348) hx hb dL_law_40 (by rw [c_425]; decide) (by rw [c_425]; decide) (by rw [c_425]; rfl) (by decide) ?_
                                          refine lv_aload_n hx hb dL_law_1348 rfl (lv_at hl 1 rfl) ?_
                                          refine lv_aload_n hx hb dL_law_1349 rfl (lv_at hl 0 rfl) ?_
                                          refine lv_iload hx hb dL_law_1350 (lv_at hl 4 rfl) ?_
                                          refine lv_iconst (v := 1) hx hb dL_law_1352 (by decide) ?_
                                          refine lv_iadd hx hb dL_law_1353 ?_
                                          obtain ⟨hi_426, hf⟩ := ix_of hf
                                          refine va_sld hx hb hX hbl hbA hS hi_426 dL_law_1354 ?_
                                          refine lv_aload_n hx hb dL_law_1355 rfl (lv_at hl 3 rfl) ?_
                                          obtain ⟨r_427, rPT_428, fPT_429, rTT_430, fTT_431, rGT_432, fGT_433, rLT_434, fLT_435, rHT_436, fHT_437, giT_438, diT_439, reT_440, tiT_441, fo_442, hc_443, hf⟩ := bd16_of hf
                                          refine fw_S (v := some (.int r_427)) (As := [.ref (x0), .int (xs (x4 + (1 : Int32)).toNatClampNeg), .ref (o0)]) (rest := []) (st1 := [.int r_427]) (ws' := ((wLR X x0 hh ht ch tx y hy rP fP rT fT rG fG rL fL rH fH gi di re ti rPT_428 fPT_429 rTT_430 fTT_431 rGT_432 fGT_433 rLT_434 fLT_435 rHT_436 fHT_437 giT_438 diT_439 reT_440 tiT_441 rS fS rB fB rO fO pl fa cn ro Qh) ++ (wOut X o0 fo_442) ++ (wMo X mo al sv sm asd th ho fr txt tl pos od nu su))) (nL := 9) ⟨hx, hb, hml, hown, hts⟩ (c_L_lostBy l hfl X x0 hh ht ch tx y hy o0 rP fP rT fT rG fG rL fL rH fH gi di re ti rPT fPT rTT fTT rGT fGT rLT fLT rHT fHT giT diT reT tiT rS fS rB fB rO fO pl fa cn ro Qh fo (xs (x4 + (1 : Int32)).toNatClampNeg) r_427 rPT_428 fPT_429 rTT_430 fTT_431 rGT_432 fGT_433 rLT_434 fLT_435 rHT_436 fHT_437 giT_438 diT_439 reT_440 tiT_441 fo_442 hc_443) (vx_cwSW 3 hts gL_law_L_lostBy rfl rfl rfl (by decide +kernel) ⟨Nat.le_of_ble_eq_true rfl, Nat.le_of_ble_eq_true rfl⟩) rfl hl.1 rfl (Nat.le_of_ble_eq_true rfl) dL_law_1356 hTS hTZ hK hP (hD0.addr (wLw_fst.trans wLw_fst.symm)) hS hA [0, 1, 2, 3, 4, 5, 6, 7, 8, 9, 10, 11, 12, 13, 14, 15, 16, 17, 18, 19, 20, 21, 22, 23, 24, 25, 26, 27, 28, 29, 30, 31, 32, 33, 34, 35, 36, 37, 38, 39, 40, 41, 42, 43, 44, 45, 46, 47, 48, 49, 50, 51, 52, 53, 54, 55, 56, 57, 58, 59, 60, 61, 62, 63, 64, 65, 66, 67, 68, 69, 70, 71, 72, 73, 74, 75, 76, 77] (by decide +kernel) wC_w wJ_w (wLw_fst.trans wLw_fst.symm) rfl ⟨(by show cl + 1 ≤ 601024; omega), (by show sl + 6 ≤ 7293034; omega)⟩ (fun H locs hP hD hS => ?_)
                                          refine lv_istore (lv' := [(5, .int r_427), (0, .ref b), (1, .ref (x0)), (2, .ref (mo 0)), (3, .ref (o0)), (4, .int x4)]) hx hb dL_law_1359 hl (by decide) rfl (fun ls hl => ?_)
                                          refine lv_aload_n hx hb dL_law_1361 rfl (lv_at hl 3 rfl) ?_
                                          refine lv_aload_n hx hb dL_law_1362 rfl (lv_at hl 1 rfl) ?_
                                          refine lv_iload hx hb dL_law_1363 (lv_at hl 5 rfl) ?_
                                          refine lv_iconst (v := 1) hx hb dL_law_1365 (by decide) ?_
                                          refine lv_iadd hx hb dL_law_1366 ?_
                                          obtain ⟨hi_444, hf⟩ := ix_of hf
                                          refine va_sld hx hb hX hbl hbA hS hi_444 dL_law_1367 ?_
                                          obtain ⟨r_445, al_446, asd_447, th_448, ho_449, hc_450, hf⟩ := bd5_of hf
                                          refine fn_VJ (v := some (.int r_445)) (As := [.int (xs (x4 + (1 : Int32)).toNatClampNeg)]) (rest := []) (st1 := [.int r_445]) (ws' := ((wLR X x0 hh ht ch tx y hy rP fP rT fT rG fG rL fL rH fH gi di re ti rPT_428 fPT_429 rTT_430 fTT_431 rGT_432 fGT_433 rLT_434 fLT_435 rHT_436 fHT_437 giT_438 diT_439 reT_440 tiT_441 rS fS rB fB rO fO pl fa cn ro Qh) ++ (wOut X o0 fo_442) ++ (wMo X mo al_446 sv sm asd_447 th_448 ho_449 fr txt tl pos od nu su))) (nL := 9) ⟨hx, hb, hml, hown, hts⟩ (c_X6_lostBy l X mo al sv sm asd th ho fr txt tl pos od nu su (xs (x4 + (1 : Int32)).toNatClampNeg) r_445 al_446 asd_447 th_448 ho_449 hc_450) (cwV 1 hts gL_law_X6_lostBy rfl rfl rfl (by decide +kernel) ⟨Nat.le_of_ble_eq_true rfl, Nat.le_of_ble_eq_true rfl⟩) 6 rfl rfl rfl rfl hl.1 rfl (Nat.le_of_ble_eq_true rfl) dL_law_1368 hK hP (hD0.addr (wLw_fst.trans wLw_fst.symm)) hS hA [78, 79, 80, 81, 82, 83, 84, 85] (by decide +kernel) wC_m wJ_m (wLw_fst.trans wLw_fst.symm) rfl ⟨(by show cl + 1 ≤ 601024; omega), (by show sl + 6 ≤ 7293034; omega)⟩ (fun H locs hP hD hS => ?_)
                                          refine lv_istore (lv' := [(6, .int r_445), (5, .int r_427), (0, .ref b), (1, .ref (x0)), (2, .ref (mo 0)), (3, .ref (o0)), (4, .int x4)]) hx hb dL_law_1371 hl (by decide) rfl (fun ls hl => ?_)
                                          refine lv_aload_n hx hb dL_law_1373 rfl (lv_at hl 4 rfl) ?_
                                          obtain ⟨r_451, hc_452, hf⟩ := bd_of hf
                                          refine fn_V (v := some (.int r_451)) (As := []) (rest := []) (st1 := [.int r_451]) (ws' := ((wLR X x0 hh ht ch tx y hy rP fP rT fT rG fG rL fL rH fH gi di re ti rPT_428 fPT_429 rTT_430 fTT_431 rGT_432 fGT_433 rLT_434 fLT_435 rHT_436 fHT_437 giT_438 diT_439 reT_440 tiT_441 rS fS rB fB rO fO pl fa cn ro Qh) ++ (wOut X o0 fo_442) ++ (wMo X mo al_446 sv sm asd_447 th_448 ho_449 fr txt tl pos od nu su))) (nL := 9) ⟨hx, hb, hml, hown, hts⟩ (c_X6_thrown l X mo al_446 sv sm asd_447 th_448 ho_449 fr txt tl pos od nu su r_451 hc_452) (cwV 0 hts gL_law_X6_thrown rfl rfl rfl (by decide +kernel) ⟨Nat.le_of_ble_eq_true rfl, Nat.le_of_ble_eq_true rfl⟩) 6 rfl rfl rfl rfl hl.1 rfl (Nat.le_of_ble_eq_true rfl) dL_law_1374 hK hP (hD0.addr (wLw_fst.trans wLw_fst.symm)) hS hA [78, 79, 80, 81, 82, 83, 84, 85] (by decide +kernel) wC_m (pt_setid _ _ _ wC_m) rfl ⟨(by show cl + 1 ≤ 601024; omega), (by show sl + 6 ≤ 7293034; omega)⟩ (fun H locs hP hD hS => ?_)
                                          refine lv_iload hx hb dL_law_1377 (lv_at hl 1 rfl) ?_
                                          refine lv_icmp_eq (tgt := 1384) hx hb dL_law_1379 (by decide) (fun c_453 => ?_) (fun c_453 => ?_)
                                          · replace hf := fp_t c_453 hf
                                            refine lv_iload hx hb dL_law_1384 (lv_at hl 1 rfl) ?_
                                            refine lv_if_ne (tgt := 1401) hx hb dL_law_1386 (by decide) (fun c_454 => ?_) (fun c_454 => ?_)
                                            · replace hf := fp_f c_454 hf
                                              refine lv_goto (tgt := 1814) hx hb dL_law_1401 (by decide) ?_
                                              obtain ⟨v_455, ev_455⟩ : ∃ y : Int32, y = x4 + (6 : Int32) := ⟨_, rfl⟩
                                              replace hf := nm_of ev_455 hf
                                              refine lv_iinc (v := v_455) (lv' := [(4, .int v_455), (6, .int r_445), (5, .int r_427), (0, .ref b), (1, .ref (x0)), (2, .ref (mo 0)), (3, .ref (o0))]) hx hb dL_law_1814 hl (k := 6) rfl (by rw [ev_455]; rfl) (by decide) rfl (fun ls hl => ?_)
                                              refine lv_goto (tgt := 23) hx hb dL_law_1817 (by decide) ?_
                                              exact ih v_455 rP fP rT fT rG fG rL fL rH fH gi di re ti rPT_428 fPT_429 rTT_430 fTT_431 rGT_432 fGT_433 rLT_434 fLT_435 rHT_436 fHT_437 giT_438 diT_439 reT_440 tiT_441 fS rB fB rO fO pl fa cn ro Qh fo_442 al_446 sv sm asd_447 th_448 ho_449 fr txt tl pos od nu su (cl + 1) (sl + 6) _ _ _ (by omega) (by omega) hf hP hS (lv_sub hl [3, 4, 5, 6, 0] rfl)
                                            · replace hf := fp_t c_454 hf
                                              refine lv_aload_n hx hb dL_law_1389 rfl (lv_at hl 5 rfl) ?_
                                              refine lv_iconst (v := 0) hx hb dL_law_1390 (by decide) ?_
                                              obtain ⟨hi_456, hf⟩ := ix_of hf
                                              refine va_lald hx hb hK.1 hP 77 1 (get_mid 77 rfl) rfl hi_456 dL_law_1391 ?_
                                              refine lv_iload hx hb dL_law_1392 (lv_at hl 0 rfl) ?_
                                              refine lv_i2l (v := r_445.toInt64) hx hb dL_law_1394 rfl ?_
                                              refine W.lcmp hx hb dL_law_1395 ?_
                                              refine lv_if_eq (tgt := 1401) hx hb dL_law_1396 (by decide) (fun c_457 => ?_) (fun c_457 => ?_)
                                              · replace hf := fp_t c_457 hf
                                                refine lv_goto (tgt := 1814) hx hb dL_law_1401 (by decide) ?_
                                                obtain ⟨v_458, ev_458⟩ : ∃ y : Int32, y = x4 + (6 : Int32) := ⟨_, rfl⟩
                                                replace hf := nm_of ev_458 hf
                                                refine lv_iinc (v := v_458) (lv' := [(4, .int v_458), (6, .int r_445), (5, .int r_427), (0, .ref b), (1, .ref (x0)), (2, .ref (mo 0)), (3, .ref (o0))]) hx hb dL_law_1814 hl (k := 6) rfl (by rw [ev_458]; rfl) (by decide) rfl (fun ls hl => ?_)
                                                refine lv_goto (tgt := 23) hx hb dL_law_1817 (by decide) ?_
                                                exact ih v_458 rP fP rT fT rG fG rL fL rH fH gi di re ti rPT_428 fPT_429 rTT_430 fTT_431 rGT_432 fGT_433 rLT_434 fLT_435 rHT_436 fHT_437 giT_438 diT_439 reT_440 tiT_441 fS rB fB rO fO pl fa cn ro Qh fo_442 al_446 sv sm asd_447 th_448 ho_449 fr txt tl pos od nu su (cl + 1) (sl + 6) _ _ _ (by omega) (by omega) hf hP hS (lv_sub hl [3, 4, 5, 6, 0] rfl)
                                              · replace hf := fp_f c_457 hf
                                                refine lv_iconst (v := 0) hx hb dL_law_1399 (by decide) ?_
                                                exact absurd (Option.some.inj hf) (by decide)
                                          · replace hf := fp_f c_453 hf
                                            refine lv_iconst (v := 0) hx hb dL_law_1382 (by decide) ?_
                                            exact absurd (Option.some.inj hf) (by decide)
                                        · replace hf := fp_f c_425 hf
                                          by_cases c_459 : v_3 = (18 : Int32)
                                          · replace hf := fp_t c_459 hf
                                            refine lv_tableIn (off := 1364) (tgt := 1404) hx hb dL_law_40 (by rw [c_459]; decide) (by rw [c_459]; decide) (by rw [c_459]; rfl) (by decide) ?_
                                            refine lv_aload_n hx hb dL_law_1404 rfl (lv_at hl 1 rfl) ?_
                                            obtain ⟨r_460, rPT_461, fPT_462, rTT_463, fTT_464, rGT_465, fGT_466, rLT_467, fLT_468, rHT_469, fHT_470, giT_471, diT_472, reT_473, tiT_474, hc_475, hf⟩ := bd15_of hf
                                            refine fn_VJ (v := some (.int r_460)) (As := []) (rest := []) (st1 := [.int r_460]) (ws' := ((wLR X x0 hh ht ch tx y hy rP fP rT fT rG fG rL fL rH fH gi di re ti rPT_461 fPT_462 rTT_463 fTT_464 rGT_465 fGT_466 rLT_467 fLT_468 rHT_469 fHT_470 giT_471 diT_472 reT_473 tiT_474 rS fS rB fB rO fO pl fa cn ro Qh) ++ (wOut X o0 fo) ++ (wMo X mo al sv sm asd th ho fr txt tl pos od nu su))) (nL := 9) ⟨hx, hb, hml, hown, hts⟩ (c_X5_mostNeeded l X x0 hh ht ch tx y hy rP fP rT fT rG fG rL fL rH fH gi di re ti rPT fPT rTT fTT rGT fGT rLT fLT rHT fHT giT diT reT tiT rS fS rB fB rO fO pl fa cn ro Qh r_460 rPT_461 fPT_462 rTT_463 fTT_464 rGT_465 fGT_466 rLT_467 fLT_468 rHT_469 fHT_470 giT_471 diT_472 reT_473 tiT_474 hc_475) (cwV 0 hts gL_law_X5_mostNeeded rfl rfl rfl (by decide +kernel) ⟨Nat.le_of_ble_eq_true rfl, Nat.le_of_ble_eq_true rfl⟩) 5 rfl rfl rfl rfl hl.1 rfl (Nat.le_of_ble_eq_true rfl) dL_law_1405 hK hP (hD0.addr (wLw_fst.trans wLw_fst.symm)) hS hA [0, 1, 2, 3, 4, 5, 6, 7, 8, 9, 10, 11, 12, 13, 14, 15, 16, 17, 18, 19, 20, 21, 22, 23, 24, 25, 26, 27, 28, 29, 30, 31, 32, 33, 34, 35, 36, 37, 38, 39, 40, 41, 42, 43, 44, 45, 46, 47, 48, 49, 50, 51, 52, 53, 54, 55, 56, 57, 58, 59, 60, 61, 62, 63, 64, 65, 66, 67, 68, 69, 70, 71, 72, 73, 74, 75, 76] (by decide +kernel) wC_l wJ_l (wLw_fst.trans wLw_fst.symm) rfl ⟨(by show cl ≤ 601024; omega), (by show sl ≤ 7293034; omega)⟩ (fun H locs hP hD hS => ?_)
                                            refine lv_aload_n hx hb dL_law_1408 rfl (lv_at hl 2 rfl) ?_
                                            obtain ⟨r_476, al_477, asd_478, th_479, ho_480, hc_481, hf⟩ := bd5_of hf
                                            refine fn_VJ (v := some (.int r_476)) (As := []) (rest := [.int r_460]) (st1 := [.int r_476, .int r_460]) (ws' := ((wLR X x0 hh ht ch tx y hy rP fP rT fT rG fG rL fL rH fH gi di re ti rPT_461 fPT_462 rTT_463 fTT_464 rGT_465 fGT_466 rLT_467 fLT_468 rHT_469 fHT_470 giT_471 diT_472 reT_473 tiT_474 rS fS rB fB rO fO pl fa cn ro Qh) ++ (wOut X o0 fo) ++ (wMo X mo al_477 sv sm asd_478 th_479 ho_480 fr txt tl pos od nu su))) (nL := 9) ⟨hx, hb, hml, hown, hts⟩ (c_X6_mostNeeded l X mo al sv sm asd th ho fr txt tl pos od nu su r_476 al_477 asd_478 th_479 ho_480 hc_481) (cwV 0 hts gL_law_X6_mostNeeded rfl rfl rfl (by decide +kernel) ⟨Nat.le_of_ble_eq_true rfl, Nat.le_of_ble_eq_true rfl⟩) 6 rfl rfl rfl rfl hl.1 rfl (Nat.le_of_ble_eq_true rfl) dL_law_1409 hK hP (hD0.addr (wLw_fst.trans wLw_fst.symm)) hS hA [78, 79, 80, 81, 82, 83, 84, 85] (by decide +kernel) wC_m wJ_m (wLw_fst.trans wLw_fst.symm) rfl ⟨(by show cl ≤ 601024; omega), (by show sl ≤ 7293034; omega)⟩ (fun H locs hP hD hS => ?_)
                                            refine lv_icmp_eq (tgt := 1814) hx hb dL_law_1412 (by decide) (fun c_482 => ?_) (fun c_482 => ?_)
                                            · replace hf := fp_t c_482 hf
                                              obtain ⟨v_483, ev_483⟩ : ∃ y : Int32, y = x4 + (6 : Int32) := ⟨_, rfl⟩
                                              replace hf := nm_of ev_483 hf
                                              refine lv_iinc (v := v_483) (lv' := [(4, .int v_483), (0, .ref b), (1, .ref (x0)), (2, .ref (mo 0)), (3, .ref (o0))]) hx hb dL_law_1814 hl (k := 4) rfl (by rw [ev_483]; rfl) (by decide) rfl (fun ls hl => ?_)
                                              refine lv_goto (tgt := 23) hx hb dL_law_1817 (by decide) ?_
                                              exact ih v_483 rP fP rT fT rG fG rL fL rH fH gi di re ti rPT_461 fPT_462 rTT_463 fTT_464 rGT_465 fGT_466 rLT_467 fLT_468 rHT_469 fHT_470 giT_471 diT_472 reT_473 tiT_474 fS rB fB rO fO pl fa cn ro Qh fo al_477 sv sm asd_478 th_479 ho_480 fr txt tl pos od nu su cl sl _ _ _ (by omega) (by omega) hf hP hS (lv_sub hl [1, 2, 3, 4, 0] rfl)
                                            · replace hf := fp_f c_482 hf
                                              refine lv_iconst (v := 0) hx hb dL_law_1415 (by decide) ?_
                                              exact absurd (Option.some.inj hf) (by decide)
                                          · replace hf := fp_f c_459 hf
                                            by_cases c_484 : v_3 = (19 : Int32)
                                            · replace hf := fp_t c_484 hf
                                              refine lv_tableIn (off := 1377) (tgt := 1417) hx hb dL_law_40 (by rw [c_484]; decide) (by rw [c_484]; decide) (by rw [c_484]; rfl) (by decide) ?_
                                              refine lv_aload_n hx hb dL_law_1417 rfl (lv_at hl 1 rfl) ?_
                                              refine lv_aload_n hx hb dL_law_1418 rfl (lv_at hl 0 rfl) ?_
                                              refine lv_iload hx hb dL_law_1419 (lv_at hl 4 rfl) ?_
                                              refine lv_iconst (v := 1) hx hb dL_law_1421 (by decide) ?_
                                              refine lv_iadd hx hb dL_law_1422 ?_
                                              obtain ⟨hi_485, hf⟩ := ix_of hf
                                              refine va_sld hx hb hX hbl hbA hS hi_485 dL_law_1423 ?_
                                              refine lv_aload_n hx hb dL_law_1424 rfl (lv_at hl 3 rfl) ?_
                                              obtain ⟨r_486, rPT_487, fPT_488, rTT_489, fTT_490, rGT_491, fGT_492, rLT_493, fLT_494, rHT_495, fHT_496, giT_497, diT_498, reT_499, tiT_500, fo_501, hc_502, hf⟩ := bd16_of hf
                                              refine fw_S (v := some (.int r_486)) (As := [.ref (x0), .int (xs (x4 + (1 : Int32)).toNatClampNeg), .ref (o0)]) (rest := []) (st1 := [.int r_486]) (ws' := ((wLR X x0 hh ht ch tx y hy rP fP rT fT rG fG rL fL rH fH gi di re ti rPT_487 fPT_488 rTT_489 fTT_490 rGT_491 fGT_492 rLT_493 fLT_494 rHT_495 fHT_496 giT_497 diT_498 reT_499 tiT_500 rS fS rB fB rO fO pl fa cn ro Qh) ++ (wOut X o0 fo_501) ++ (wMo X mo al sv sm asd th ho fr txt tl pos od nu su))) (nL := 9) ⟨hx, hb, hml, hown, hts⟩ (c_L_seenIn l hfl X x0 hh ht ch tx y hy o0 rP fP rT fT rG fG rL fL rH fH gi di re ti rPT fPT rTT fTT rGT fGT rLT fLT rHT fHT giT diT reT tiT rS fS rB fB rO fO pl fa cn ro Qh fo (xs (x4 + (1 : Int32)).toNatClampNeg) r_486 rPT_487 fPT_488 rTT_489 fTT_490 rGT_491 fGT_492 rLT_493 fLT_494 rHT_495 fHT_496 giT_497 diT_498 reT_499 tiT_500 fo_501 hc_502) (vx_cwSW 3 hts gL_law_L_seenIn rfl rfl rfl (by decide +kernel) ⟨Nat.le_of_ble_eq_true rfl, Nat.le_of_ble_eq_true rfl⟩) rfl hl.1 rfl (Nat.le_of_ble_eq_true rfl) dL_law_1425 hTS hTZ hK hP (hD0.addr (wLw_fst.trans wLw_fst.symm)) hS hA [0, 1, 2, 3, 4, 5, 6, 7, 8, 9, 10, 11, 12, 13, 14, 15, 16, 17, 18, 19, 20, 21, 22, 23, 24, 25, 26, 27, 28, 29, 30, 31, 32, 33, 34, 35, 36, 37, 38, 39, 40, 41, 42, 43, 44, 45, 46, 47, 48, 49, 50, 51, 52, 53, 54, 55, 56, 57, 58, 59, 60, 61, 62, 63, 64, 65, 66, 67, 68, 69, 70, 71, 72, 73, 74, 75, 76, 77] (by decide +kernel) wC_w wJ_w (wLw_fst.trans wLw_fst.symm) rfl ⟨(by show cl + 1 ≤ 601024; omega), (by show sl + 6 ≤ 7293034; omega)⟩ (fun H locs hP hD hS => ?_)
                                              refine lv_istore (lv' := [(5, .int r_486), (0, .ref b), (1, .ref (x0)), (2, .ref (mo 0)), (3, .ref (o0)), (4, .int x4)]) hx hb dL_law_1428 hl (by decide) rfl (fun ls hl => ?_)
                                              refine lv_aload_n hx hb dL_law_1430 rfl (lv_at hl 3 rfl) ?_
                                              refine lv_aload_n hx hb dL_law_1431 rfl (lv_at hl 1 rfl) ?_
                                              refine lv_iload hx hb dL_law_1432 (lv_at hl 5 rfl) ?_
                                              refine lv_iconst (v := 1) hx hb dL_law_1434 (by decide) ?_
                                              refine lv_iadd hx hb dL_law_1435 ?_
                                              obtain ⟨hi_503, hf⟩ := ix_of hf
                                              refine va_sld hx hb hX hbl hbA hS hi_503 dL_law_1436 ?_
                                              obtain ⟨r_504, al_505, asd_506, th_507, ho_508, hc_509, hf⟩ := bd5_of hf
                                              refine fn_VJ (v := some (.int r_504)) (As := [.int (xs (x4 + (1 : Int32)).toNatClampNeg)]) (rest := []) (st1 := [.int r_504]) (ws' := ((wLR X x0 hh ht ch tx y hy rP fP rT fT rG fG rL fL rH fH gi di re ti rPT_487 fPT_488 rTT_489 fTT_490 rGT_491 fGT_492 rLT_493 fLT_494 rHT_495 fHT_496 giT_497 diT_498 reT_499 tiT_500 rS fS rB fB rO fO pl fa cn ro Qh) ++ (wOut X o0 fo_501) ++ (wMo X mo al_505 sv sm asd_506 th_507 ho_508 fr txt tl pos od nu su))) (nL := 9) ⟨hx, hb, hml, hown, hts⟩ (c_X6_seenIn l X mo al sv sm asd th ho fr txt tl pos od nu su (xs (x4 + (1 : Int32)).toNatClampNeg) r_504 al_505 asd_506 th_507 ho_508 hc_509) (cwV 1 hts gL_law_X6_seenIn rfl rfl rfl (by decide +kernel) ⟨Nat.le_of_ble_eq_true rfl, Nat.le_of_ble_eq_true rfl⟩) 6 rfl rfl rfl rfl hl.1 rfl (Nat.le_of_ble_eq_true rfl) dL_law_1437 hK hP (hD0.addr (wLw_fst.trans wLw_fst.symm)) hS hA [78, 79, 80, 81, 82, 83, 84, 85] (by decide +kernel) wC_m wJ_m (wLw_fst.trans wLw_fst.symm) rfl ⟨(by show cl + 1 ≤ 601024; omega), (by show sl + 6 ≤ 7293034; omega)⟩ (fun H locs hP hD hS => ?_)
                                              refine lv_istore (lv' := [(6, .int r_504), (5, .int r_486), (0, .ref b), (1, .ref (x0)), (2, .ref (mo 0)), (3, .ref (o0)), (4, .int x4)]) hx hb dL_law_1440 hl (by decide) rfl (fun ls hl => ?_)
                                              refine lv_aload_n hx hb dL_law_1442 rfl (lv_at hl 4 rfl) ?_
                                              obtain ⟨r_510, hc_511, hf⟩ := bd_of hf
                                              refine fn_V (v := some (.int r_510)) (As := []) (rest := []) (st1 := [.int r_510]) (ws' := ((wLR X x0 hh ht ch tx y hy rP fP rT fT rG fG rL fL rH fH gi di re ti rPT_487 fPT_488 rTT_489 fTT_490 rGT_491 fGT_492 rLT_493 fLT_494 rHT_495 fHT_496 giT_497 diT_498 reT_499 tiT_500 rS fS rB fB rO fO pl fa cn ro Qh) ++ (wOut X o0 fo_501) ++ (wMo X mo al_505 sv sm asd_506 th_507 ho_508 fr txt tl pos od nu su))) (nL := 9) ⟨hx, hb, hml, hown, hts⟩ (c_X6_thrown l X mo al_505 sv sm asd_506 th_507 ho_508 fr txt tl pos od nu su r_510 hc_511) (cwV 0 hts gL_law_X6_thrown rfl rfl rfl (by decide +kernel) ⟨Nat.le_of_ble_eq_true rfl, Nat.le_of_ble_eq_true rfl⟩) 6 rfl rfl rfl rfl hl.1 rfl (Nat.le_of_ble_eq_true rfl) dL_law_1443 hK hP (hD0.addr (wLw_fst.trans wLw_fst.symm)) hS hA [78, 79, 80, 81, 82, 83, 84, 85] (by decide +kernel) wC_m (pt_setid _ _ _ wC_m) rfl ⟨(by show cl + 1 ≤ 601024; omega), (by show sl + 6 ≤ 7293034; omega)⟩ (fun H locs hP hD hS => ?_)
                                              refine lv_iload hx hb dL_law_1446 (lv_at hl 1 rfl) ?_
                                              refine lv_icmp_eq (tgt := 1453) hx hb dL_law_1448 (by decide) (fun c_512 => ?_) (fun c_512 => ?_)
                                              · replace hf := fp_t c_512 hf
                                                refine lv_iload hx hb dL_law_1453 (lv_at hl 1 rfl) ?_
                                                refine lv_if_ne (tgt := 1470) hx hb dL_law_1455 (by decide) (fun c_513 => ?_) (fun c_513 => ?_)
                                                · replace hf := fp_f c_513 hf
                                                  refine lv_goto (tgt := 1814) hx hb dL_law_1470 (by decide) ?_
                                                  obtain ⟨v_514, ev_514⟩ : ∃ y : Int32, y = x4 + (6 : Int32) := ⟨_, rfl⟩
                                                  replace hf := nm_of ev_514 hf
                                                  refine lv_iinc (v := v_514) (lv' := [(4, .int v_514), (6, .int r_504), (5, .int r_486), (0, .ref b), (1, .ref (x0)), (2, .ref (mo 0)), (3, .ref (o0))]) hx hb dL_law_1814 hl (k := 6) rfl (by rw [ev_514]; rfl) (by decide) rfl (fun ls hl => ?_)
                                                  refine lv_goto (tgt := 23) hx hb dL_law_1817 (by decide) ?_
                                                  exact ih v_514 rP fP rT fT rG fG rL fL rH fH gi di re ti rPT_487 fPT_488 rTT_489 fTT_490 rGT_491 fGT_492 rLT_493 fLT_494 rHT_495 fHT_496 giT_497 diT_498 reT_499 tiT_500 fS rB fB rO fO pl fa cn ro Qh fo_501 al_505 sv sm asd_506 th_507 ho_508 fr txt tl pos od nu su (cl + 1) (sl + 6) _ _ _ (by omega) (by omega) hf hP hS (lv_sub hl [3, 4, 5, 6, 0] rfl)
                                                · replace hf := fp_t c_513 hf
                                                  refine lv_aload_n hx hb dL_law_1458 rfl (lv_at hl 5 rfl) ?_
                                                  refine lv_iconst (v := 0) hx hb dL_law_1459 (by decide) ?_
                                                  obtain ⟨hi_515, hf⟩ := ix_of hf
                                                  refine va_lald hx hb hK.1 hP 77 1 (get_mid 77 rfl) rfl hi_515 dL_law_1460 ?_
                                                  refine lv_iload hx hb dL_law_1461 (lv_at hl 0 rfl) ?_
                                                  refine lv_i2l (v := r_504.toInt64) hx hb dL_law_1463 rfl ?_
                                                  refine W.lcmp hx hb dL_law_1464 ?_
                                                  refine lv_if_eq (tgt := 1470) hx hb dL_law_1465 (by decide) (fun c_516 => ?_) (fun c_516 => ?_)
                                                  · replace hf := fp_t c_516 hf
                                                    refine lv_goto (tgt := 1814) hx hb dL_law_1470 (by decide) ?_
                                                    obtain ⟨v_517, ev_517⟩ : ∃ y : Int32, y = x4 + (6 : Int32) := ⟨_, rfl⟩
                                                    replace hf := nm_of ev_517 hf
                                                    refine lv_iinc (v := v_517) (lv' := [(4, .int v_517), (6, .int r_504), (5, .int r_486), (0, .ref b), (1, .ref (x0)), (2, .ref (mo 0)), (3, .ref (o0))]) hx hb dL_law_1814 hl (k := 6) rfl (by rw [ev_517]; rfl) (by decide) rfl (fun ls hl => ?_)
                                                    refine lv_goto (tgt := 23) hx hb dL_law_1817 (by decide) ?_
                                                    exact ih v_517 rP fP rT fT rG fG rL fL rH fH gi di re ti rPT_487 fPT_488 rTT_489 fTT_490 rGT_491 fGT_492 rLT_493 fLT_494 rHT_495 fHT_496 giT_497 diT_498 reT_499 tiT_500 fS rB fB rO fO pl fa cn ro Qh fo_501 al_505 sv sm asd_506 th_507 ho_508 fr txt tl pos od nu su (cl + 1) (sl + 6) _ _ _ (by omega) (by omega) hf hP hS (lv_sub hl [3, 4, 5, 6, 0] rfl)
                                                  · replace hf := fp_f c_516 hf
                                                    refine lv_iconst (v := 0) hx hb dL_law_1468 (by decide) ?_
                                                    exact absurd (Option.some.inj hf) (by decide)
                                              · replace hf := fp_f c_512 hf
                                                refine lv_iconst (v := 0) hx hb dL_law_1451 (by decide) ?_
                                                exact absurd (Option.some.inj hf) (by decide)
                                            · replace hf := fp_f c_484 hf
                                              by_cases c_518 : v_3 = (20 : Int32)
                                              · replace hf := fp_t c_518 hf
                                                refine lv_tableIn (off := 1433) (tgt := 1473) hx hb dL_law_40 (by rw [c_518]; decide) (by rw [c_518]; decide) (by rw [c_518]; rfl) (by decide) ?_
                                                refine lv_aload_n hx hb dL_law_1473 rfl (lv_at hl 1 rfl) ?_
                                                refine lv_aload_n hx hb dL_law_1474 rfl (lv_at hl 0 rfl) ?_
                                                refine lv_iload hx hb dL_law_1475 (lv_at hl 4 rfl) ?_
                                                refine lv_iconst (v := 1) hx hb dL_law_1477 (by decide) ?_
                                                refine lv_iadd hx hb dL_law_1478 ?_
                                                obtain ⟨hi_519, hf⟩ := ix_of hf
                                                refine va_sld hx hb hX hbl hbA hS hi_519 dL_law_1479 ?_
                                                refine lv_aload_n hx hb dL_law_1480 rfl (lv_at hl 0 rfl) ?_
                                                refine lv_iload hx hb dL_law_1481 (lv_at hl 4 rfl) ?_
                                                refine lv_iconst (v := 2) hx hb dL_law_1483 (by decide) ?_
                                                refine lv_iadd hx hb dL_law_1484 ?_
                                                obtain ⟨hi_520, hf⟩ := ix_of hf
                                                refine va_sld hx hb hX hbl hbA hS hi_520 dL_law_1485 ?_
                                                refine lv_aload_n hx hb dL_law_1486 rfl (lv_at hl 0 rfl) ?_
                                                refine lv_iload hx hb dL_law_1487 (lv_at hl 4 rfl) ?_
                                                refine lv_iconst (v := 3) hx hb dL_law_1489 (by decide) ?_
                                                refine lv_iadd hx hb dL_law_1490 ?_
                                                obtain ⟨hi_521, hf⟩ := ix_of hf
                                                refine va_sld hx hb hX hbl hbA hS hi_521 dL_law_1491 ?_
                                                refine lv_aload_n hx hb dL_law_1492 rfl (lv_at hl 0 rfl) ?_
                                                refine lv_iload hx hb dL_law_1493 (lv_at hl 4 rfl) ?_
                                                refine lv_iconst (v := 4) hx hb dL_law_1495 (by decide) ?_
                                                refine lv_iadd hx hb dL_law_1496 ?_
                                                obtain ⟨hi_522, hf⟩ := ix_of hf
                                                refine va_sld hx hb hX hbl hbA hS hi_522 dL_law_1497 ?_
                                                refine lv_aload_n hx hb dL_law_1498 rfl (lv_at hl 0 rfl) ?_
                                                refine lv_iload hx hb dL_law_1499 (lv_at hl 4 rfl) ?_
                                                refine lv_iconst (v := 5) hx hb dL_law_1501 (by decide) ?_
                                                refine lv_iadd hx hb dL_law_1502 ?_
                                                obtain ⟨hi_523, hf⟩ := ix_of hf
                                                refine va_sld hx hb hX hbl hbA hS hi_523 dL_law_1503 ?_
                                                refine lv_aload_n hx hb dL_law_1504 rfl (lv_at hl 3 rfl) ?_
                                                obtain ⟨r_524, rPT_525, fPT_526, rTT_527, fTT_528, rGT_529, fGT_530, rLT_531, fLT_532, rHT_533, fHT_534, giT_535, diT_536, reT_537, tiT_538, fo_539, hc_540, hf⟩ := bd16_of hf
                                                refine fw_S (v := some (.int r_524)) (As := [.ref (x0), .int (xs (x4 + (1 : Int32)).toNatClampNeg), .int (xs (x4 + (2 : Int32)).toNatClampNeg), .int (xs (x4 + (3 : Int32)).toNatClampNeg), .int (xs (x4 + (4 : Int32)).toNatClampNeg), .int (xs (x4 + (5 : Int32)).toNatClampNeg), .ref (o0)]) (rest := []) (st1 := [.int r_524]) (ws' := ((wLR X x0 hh ht ch tx y hy rP fP rT fT rG fG rL fL rH fH gi di re ti rPT_525 fPT_526 rTT_527 fTT_528 rGT_529 fGT_530 rLT_531 fLT_532 rHT_533 fHT_534 giT_535 diT_536 reT_537 tiT_538 rS fS rB fB rO fO pl fa cn ro Qh) ++ (wOut X o0 fo_539) ++ (wMo X mo al sv sm asd th ho fr txt tl pos od nu su))) (nL := 9) ⟨hx, hb, hml, hown, hts⟩ (c_L_gainBy l hfl X x0 hh ht ch tx y hy o0 rP fP rT fT rG fG rL fL rH fH gi di re ti rPT fPT rTT fTT rGT fGT rLT fLT rHT fHT giT diT reT tiT rS fS rB fB rO fO pl fa cn ro Qh fo (xs (x4 + (1 : Int32)).toNatClampNeg) (xs (x4 + (2 : Int32)).toNatClampNeg) (xs (x4 + (3 : Int32)).toNatClampNeg) (xs (x4 + (4 : Int32)).toNatClampNeg) (xs (x4 + (5 : Int32)).toNatClampNeg) r_524 rPT_525 fPT_526 rTT_527 fTT_528 rGT_529 fGT_530 rLT_531 fLT_532 rHT_533 fHT_534 giT_535 diT_536 reT_537 tiT_538 fo_539 hc_540) (vx_cwSW 7 hts gL_law_L_gainBy rfl rfl rfl (by decide +kernel) ⟨Nat.le_of_ble_eq_true rfl, Nat.le_of_ble_eq_true rfl⟩) rfl hl.1 rfl (Nat.le_of_ble_eq_true rfl) dL_law_1505 hTS hTZ hK hP (hD0.addr (wLw_fst.trans wLw_fst.symm)) hS hA [0, 1, 2, 3, 4, 5, 6, 7, 8, 9, 10, 11, 12, 13, 14, 15, 16, 17, 18, 19, 20, 21, 22, 23, 24, 25, 26, 27, 28, 29, 30, 31, 32, 33, 34, 35, 36, 37, 38, 39, 40, 41, 42, 43, 44, 45, 46, 47, 48, 49, 50, 51, 52, 53, 54, 55, 56, 57, 58, 59, 60, 61, 62, 63, 64, 65, 66, 67, 68, 69, 70, 71, 72, 73, 74, 75, 76, 77] (by decide +kernel) wC_w wJ_w (wLw_fst.trans wLw_fst.symm) rfl ⟨(by show cl + 1 ≤ 601024; omega), (by show sl + 6 ≤ 7293034; omega)⟩ (fun H locs hP hD hS => ?_)
                                                refine lv_istore (lv' := [(5, .int r_524), (0, .ref b), (1, .ref (x0)), (2, .ref (mo 0)), (3, .ref (o0)), (4, .int x4)]) hx hb dL_law_1508 hl (by decide) rfl (fun ls hl => ?_)
                                                refine lv_aload_n hx hb dL_law_1510 rfl (lv_at hl 3 rfl) ?_
                                                refine lv_aload_n hx hb dL_law_1511 rfl (lv_at hl 1 rfl) ?_
                                                refine lv_iload hx hb dL_law_1512 (lv_at hl 5 rfl) ?_
                                                refine lv_iconst (v := 1) hx hb dL_law_1514 (by decide) ?_
                                                refine lv_iadd hx hb dL_law_1515 ?_
                                                obtain ⟨hi_541, hf⟩ := ix_of hf
                                                refine va_sld hx hb hX hbl hbA hS hi_541 dL_law_1516 ?_
                                                refine lv_aload_n hx hb dL_law_1517 rfl (lv_at hl 1 rfl) ?_
                                                refine lv_iload hx hb dL_law_1518 (lv_at hl 5 rfl) ?_
                                                refine lv_iconst (v := 2) hx hb dL_law_1520 (by decide) ?_
                                                refine lv_iadd hx hb dL_law_1521 ?_
                                                obtain ⟨hi_542, hf⟩ := ix_of hf
                                                refine va_sld hx hb hX hbl hbA hS hi_542 dL_law_1522 ?_
                                                refine lv_aload_n hx hb dL_law_1523 rfl (lv_at hl 1 rfl) ?_
                                                refine lv_iload hx hb dL_law_1524 (lv_at hl 5 rfl) ?_
                                                refine lv_iconst (v := 3) hx hb dL_law_1526 (by decide) ?_
                                                refine lv_iadd hx hb dL_law_1527 ?_
                                                obtain ⟨hi_543, hf⟩ := ix_of hf
                                                refine va_sld hx hb hX hbl hbA hS hi_543 dL_law_1528 ?_
                                                refine lv_aload_n hx hb dL_law_1529 rfl (lv_at hl 1 rfl) ?_
                                                refine lv_iload hx hb dL_law_1530 (lv_at hl 5 rfl) ?_
                                                refine lv_iconst (v := 4) hx hb dL_law_1532 (by decide) ?_
                                                refine lv_iadd hx hb dL_law_1533 ?_
                                                obtain ⟨hi_544, hf⟩ := ix_of hf
                                                refine va_sld hx hb hX hbl hbA hS hi_544 dL_law_1534 ?_
                                                refine lv_aload_n hx hb dL_law_1535 rfl (lv_at hl 1 rfl) ?_
                                                refine lv_iload hx hb dL_law_1536 (lv_at hl 5 rfl) ?_
                                                refine lv_iconst (v := 5) hx hb dL_law_1538 (by decide) ?_
                                                refine lv_iadd hx hb dL_law_1539 ?_
                                                obtain ⟨hi_545, hf⟩ := ix_of hf
                                                refine va_sld hx hb hX hbl hbA hS hi_545 dL_law_1540 ?_
                                                obtain ⟨r_546, al_547, asd_548, th_549, ho_550, hc_551, hf⟩ := bd5_of hf
                                                refine fn_VJ (v := some (.int r_546)) (As := [.int (xs (x4 + (1 : Int32)).toNatClampNeg), .int (xs (x4 + (2 : Int32)).toNatClampNeg), .int (xs (x4 + (3 : Int32)).toNatClampNeg), .int (xs (x4 + (4 : Int32)).toNatClampNeg), .int (xs (x4 + (5 : Int32)).toNatClampNeg)]) (rest := []) (st1 := [.int r_546]) (ws' := ((wLR X x0 hh ht ch tx y hy rP fP rT fT rG fG rL fL rH fH gi di re ti rPT_525 fPT_526 rTT_527 fTT_528 rGT_529 fGT_530 rLT_531 fLT_532 rHT_533 fHT_534 giT_535 diT_536 reT_537 tiT_538 rS fS rB fB rO fO pl fa cn ro Qh) ++ (wOut X o0 fo_539) ++ (wMo X mo al_547 sv sm asd_548 th_549 ho_550 fr txt tl pos od nu su))) (nL := 9) ⟨hx, hb, hml, hown, hts⟩ (c_X6_gainBy l X mo al sv sm asd th ho fr txt tl pos od nu su (xs (x4 + (1 : Int32)).toNatClampNeg) (xs (x4 + (2 : Int32)).toNatClampNeg) (xs (x4 + (3 : Int32)).toNatClampNeg) (xs (x4 + (4 : Int32)).toNatClampNeg) (xs (x4 + (5 : Int32)).toNatClampNeg) r_546 al_547 asd_548 th_549 ho_550 hc_551) (cwV 5 hts gL_law_X6_gainBy rfl rfl rfl (by decide +kernel) ⟨Nat.le_of_ble_eq_true rfl, Nat.le_of_ble_eq_true rfl⟩) 6 rfl rfl rfl rfl hl.1 rfl (Nat.le_of_ble_eq_true rfl) dL_law_1541 hK hP (hD0.addr (wLw_fst.trans wLw_fst.symm)) hS hA [78, 79, 80, 81, 82, 83, 84, 85] (by decide +kernel) wC_m wJ_m (wLw_fst.trans wLw_fst.symm) rfl ⟨(by show cl + 1 ≤ 601024; omega), (by show sl + 6 ≤ 7293034; omega)⟩ (fun H locs hP hD hS => ?_)
                                                refine lv_istore (lv' := [(6, .int r_546), (5, .int r_524), (0, .ref b), (1, .ref (x0)), (2, .ref (mo 0)), (3, .ref (o0)), (4, .int x4)]) hx hb dL_law_1544 hl (by decide) rfl (fun ls hl => ?_)
                                                refine lv_aload_n hx hb dL_law_1546 rfl (lv_at hl 4 rfl) ?_
                                                obtain ⟨r_552, hc_553, hf⟩ := bd_of hf
                                                refine fn_V (v := some (.int r_552)) (As := []) (rest := []) (st1 := [.int r_552]) (ws' := ((wLR X x0 hh ht ch tx y hy rP fP rT fT rG fG rL fL rH fH gi di re ti rPT_525 fPT_526 rTT_527 fTT_528 rGT_529 fGT_530 rLT_531 fLT_532 rHT_533 fHT_534 giT_535 diT_536 reT_537 tiT_538 rS fS rB fB rO fO pl fa cn ro Qh) ++ (wOut X o0 fo_539) ++ (wMo X mo al_547 sv sm asd_548 th_549 ho_550 fr txt tl pos od nu su))) (nL := 9) ⟨hx, hb, hml, hown, hts⟩ (c_X6_thrown l X mo al_547 sv sm asd_548 th_549 ho_550 fr txt tl pos od nu su r_552 hc_553) (cwV 0 hts gL_law_X6_thrown rfl rfl rfl (by decide +kernel) ⟨Nat.le_of_ble_eq_true rfl, Nat.le_of_ble_eq_true rfl⟩) 6 rfl rfl rfl rfl hl.1 rfl (Nat.le_of_ble_eq_true rfl) dL_law_1547 hK hP (hD0.addr (wLw_fst.trans wLw_fst.symm)) hS hA [78, 79, 80, 81, 82, 83, 84, 85] (by decide +kernel) wC_m (pt_setid _ _ _ wC_m) rfl ⟨(by show cl + 1 ≤ 601024; omega), (by show sl + 6 ≤ 7293034; omega)⟩ (fun H locs hP hD hS => ?_)
                                                refine lv_iload hx hb dL_law_1550 (lv_at hl 1 rfl) ?_
                                                refine lv_icmp_eq (tgt := 1557) hx hb dL_law_1552 (by decide) (fun c_554 => ?_) (fun c_554 => ?_)
                                                · replace hf := fp_t c_554 hf
                                                  refine lv_iload hx hb dL_law_1557 (lv_at hl 1 rfl) ?_
                                                  refine lv_if_ne (tgt := 1574) hx hb dL_law_1559 (by decide) (fun c_555 => ?_) (fun c_555 => ?_)
                                                  · replace hf := fp_f c_555 hf
                                                    refine lv_goto (tgt := 1814) hx hb dL_law_1574 (by decide) ?_
                                                    obtain ⟨v_556, ev_556⟩ : ∃ y : Int32, y = x4 + (6 : Int32) := ⟨_, rfl⟩
                                                    replace hf := nm_of ev_556 hf
                                                    refine lv_iinc (v := v_556) (lv' := [(4, .int v_556), (6, .int r_546), (5, .int r_524), (0, .ref b), (1, .ref (x0)), (2, .ref (mo 0)), (3, .ref (o0))]) hx hb dL_law_1814 hl (k := 6) rfl (by rw [ev_556]; rfl) (by decide) rfl (fun ls hl => ?_)
                                                    refine lv_goto (tgt := 23) hx hb dL_law_1817 (by decide) ?_
                                                    exact ih v_556 rP fP rT fT rG fG rL fL rH fH gi di re ti rPT_525 fPT_526 rTT_527 fTT_528 rGT_529 fGT_530 rLT_531 fLT_532 rHT_533 fHT_534 giT_535 diT_536 reT_537 tiT_538 fS rB fB rO fO pl fa cn ro Qh fo_539 al_547 sv sm asd_548 th_549 ho_550 fr txt tl pos od nu su (cl + 1) (sl + 6) _ _ _ (by omega) (by omega) hf hP hS (lv_sub hl [3, 4, 5, 6, 0] rfl)
                                                  · replace hf := fp_t c_555 hf
                                                    refine lv_aload_n hx hb dL_law_1562 rfl (lv_at hl 5 rfl) ?_
                                                    refine lv_iconst (v := 0) hx hb dL_law_1563 (by decide) ?_
                                                    obtain ⟨hi_557, hf⟩ := ix_of hf
                                                    refine va_lald hx hb hK.1 hP 77 1 (get_mid 77 rfl) rfl hi_557 dL_law_1564 ?_
                                                    refine lv_iload hx hb dL_law_1565 (lv_at hl 0 rfl) ?_
                                                    refine lv_i2l (v := r_546.toInt64) hx hb dL_law_1567 rfl ?_
                                                    refine W.lcmp hx hb dL_law_1568 ?_
                                                    refine lv_if_eq (tgt := 1574) hx hb dL_law_1569 (by decide) (fun c_558 => ?_) (fun c_558 => ?_)
                                                    · replace hf := fp_t c_558 hf
                                                      refine lv_goto (tgt := 1814) hx hb dL_law_1574 (by decide) ?_
                                                      obtain ⟨v_559, ev_559⟩ : ∃ y : Int32, y = x4 + (6 : Int32) := ⟨_, rfl⟩
                                                      replace hf := nm_of ev_559 hf
                                                      refine lv_iinc (v := v_559) (lv' := [(4, .int v_559), (6, .int r_546), (5, .int r_524), (0, .ref b), (1, .ref (x0)), (2, .ref (mo 0)), (3, .ref (o0))]) hx hb dL_law_1814 hl (k := 6) rfl (by rw [ev_559]; rfl) (by decide) rfl (fun ls hl => ?_)
                                                      refine lv_goto (tgt := 23) hx hb dL_law_1817 (by decide) ?_
                                                      exact ih v_559 rP fP rT fT rG fG rL fL rH fH gi di re ti rPT_525 fPT_526 rTT_527 fTT_528 rGT_529 fGT_530 rLT_531 fLT_532 rHT_533 fHT_534 giT_535 diT_536 reT_537 tiT_538 fS rB fB rO fO pl fa cn ro Qh fo_539 al_547 sv sm asd_548 th_549 ho_550 fr txt tl pos od nu su (cl + 1) (sl + 6) _ _ _ (by omega) (by omega) hf hP hS (lv_sub hl [3, 4, 5, 6, 0] rfl)
                                                    · replace hf := fp_f c_558 hf
                                                      refine lv_iconst (v := 0) hx hb dL_law_1572 (by decide) ?_
                                                      exact absurd (Option.some.inj hf) (by decide)
                                                · replace hf := fp_f c_554 hf
                                                  refine lv_iconst (v := 0) hx hb dL_law_1555 (by decide) ?_
                                                  exact absurd (Option.some.inj hf) (by decide)
                                              · replace hf := fp_f c_518 hf
                                                by_cases c_560 : v_3 = (21 : Int32)
                                                · replace hf := fp_t c_560 hf
                                                  refine lv_tableIn (off := 1537) (tgt := 1577) hx hb dL_law_40 (by rw [c_560]; decide) (by rw [c_560]; decide) (by rw [c_560]; rfl) (by decide) ?_
                                                  refine lv_aload_n hx hb dL_law_1577 rfl (lv_at hl 1 rfl) ?_
                                                  refine lv_aload_n hx hb dL_law_1578 rfl (lv_at hl 0 rfl) ?_
                                                  refine lv_iload hx hb dL_law_1579 (lv_at hl 4 rfl) ?_
                                                  refine lv_iconst (v := 1) hx hb dL_law_1581 (by decide) ?_
                                                  refine lv_iadd hx hb dL_law_1582 ?_
                                                  obtain ⟨hi_561, hf⟩ := ix_of hf
                                                  refine va_sld hx hb hX hbl hbA hS hi_561 dL_law_1583 ?_
                                                  refine lv_aload_n hx hb dL_law_1584 rfl (lv_at hl 3 rfl) ?_
                                                  obtain ⟨r_562, fo_563, hc_564, hf⟩ := bd2_of hf
                                                  refine fw_S (v := some (.int r_562)) (As := [.ref (x0), .int (xs (x4 + (1 : Int32)).toNatClampNeg), .ref (o0)]) (rest := []) (st1 := [.int r_562]) (ws' := ((wLR X x0 hh ht ch tx y hy rP fP rT fT rG fG rL fL rH fH gi di re ti rPT fPT rTT fTT rGT fGT rLT fLT rHT fHT giT diT reT tiT rS fS rB fB rO fO pl fa cn ro Qh) ++ (wOut X o0 fo_563) ++ (wMo X mo al sv sm asd th ho fr txt tl pos od nu su))) (nL := 9) ⟨hx, hb, hml, hown, hts⟩ (c_L_patience l hfl X x0 hh ht ch tx y hy o0 rP fP rT fT rG fG rL fL rH fH gi di re ti rPT fPT rTT fTT rGT fGT rLT fLT rHT fHT giT diT reT tiT rS fS rB fB rO fO pl fa cn ro Qh fo (xs (x4 + (1 : Int32)).toNatClampNeg) r_562 fo_563 hc_564) (vx_cwSW 3 hts gL_law_L_patience rfl rfl rfl (by decide +kernel) ⟨Nat.le_of_ble_eq_true rfl, Nat.le_of_ble_eq_true rfl⟩) rfl hl.1 rfl (Nat.le_of_ble_eq_true rfl) dL_law_1585 hTS hTZ hK hP (hD0.addr (wLw_fst.trans wLw_fst.symm)) hS hA [0, 1, 2, 3, 4, 5, 6, 7, 8, 9, 10, 11, 12, 13, 14, 15, 16, 17, 18, 19, 20, 21, 22, 23, 24, 25, 26, 27, 28, 29, 30, 31, 32, 33, 34, 35, 36, 37, 38, 39, 40, 41, 42, 43, 44, 45, 46, 47, 48, 49, 50, 51, 52, 53, 54, 55, 56, 57, 58, 59, 60, 61, 62, 63, 64, 65, 66, 67, 68, 69, 70, 71, 72, 73, 74, 75, 76, 77] (by decide +kernel) wC_w wJ_w (wLw_fst.trans wLw_fst.symm) rfl ⟨(by show cl + 1 ≤ 601024; omega), (by show sl + 6 ≤ 7293034; omega)⟩ (fun H locs hP hD hS => ?_)
                                                  refine lv_istore (lv' := [(5, .int r_562), (0, .ref b), (1, .ref (x0)), (2, .ref (mo 0)), (3, .ref (o0)), (4, .int x4)]) hx hb dL_law_1588 hl (by decide) rfl (fun ls hl => ?_)
                                                  refine lv_aload_n hx hb dL_law_1590 rfl (lv_at hl 3 rfl) ?_
                                                  refine lv_aload_n hx hb dL_law_1591 rfl (lv_at hl 1 rfl) ?_
                                                  refine lv_iload hx hb dL_law_1592 (lv_at hl 5 rfl) ?_
                                                  refine lv_iconst (v := 1) hx hb dL_law_1594 (by decide) ?_
                                                  refine lv_iadd hx hb dL_law_1595 ?_
                                                  obtain ⟨hi_565, hf⟩ := ix_of hf
                                                  refine va_sld hx hb hX hbl hbA hS hi_565 dL_law_1596 ?_
                                                  obtain ⟨r_566, th_567, hc_568, hf⟩ := bd2_of hf
                                                  refine fn_VJ (v := some (.int r_566)) (As := [.int (xs (x4 + (1 : Int32)).toNatClampNeg)]) (rest := []) (st1 := [.int r_566]) (ws' := ((wLR X x0 hh ht ch tx y hy rP fP rT fT rG fG rL fL rH fH gi di re ti rPT fPT rTT fTT rGT fGT rLT fLT rHT fHT giT diT reT tiT rS fS rB fB rO fO pl fa cn ro Qh) ++ (wOut X o0 fo_563) ++ (wMo X mo al sv sm asd th_567 ho fr txt tl pos od nu su))) (nL := 9) ⟨hx, hb, hml, hown, hts⟩ (c_X6_patience l X mo al sv sm asd th ho fr txt tl pos od nu su (xs (x4 + (1 : Int32)).toNatClampNeg) r_566 th_567 hc_568) (cwV 1 hts gL_law_X6_patience rfl rfl rfl (by decide +kernel) ⟨Nat.le_of_ble_eq_true rfl, Nat.le_of_ble_eq_true rfl⟩) 6 rfl rfl rfl rfl hl.1 rfl (Nat.le_of_ble_eq_true rfl) dL_law_1597 hK hP (hD0.addr (wLw_fst.trans wLw_fst.symm)) hS hA [78, 79, 80, 81, 82, 83, 84, 85] (by decide +kernel) wC_m wJ_m (wLw_fst.trans wLw_fst.symm) rfl ⟨(by show cl + 1 ≤ 601024; omega), (by show sl + 6 ≤ 7293034; omega)⟩ (fun H locs hP hD hS => ?_)
                                                  refine lv_istore (lv' := [(6, .int r_566), (5, .int r_562), (0, .ref b), (1, .ref (x0)), (2, .ref (mo 0)), (3, .ref (o0)), (4, .int x4)]) hx hb dL_law_1600 hl (by decide) rfl (fun ls hl => ?_)
                                                  refine lv_aload_n hx hb dL_law_1602 rfl (lv_at hl 4 rfl) ?_
                                                  obtain ⟨r_569, hc_570, hf⟩ := bd_of hf
                                                  refine fn_V (v := some (.int r_569)) (As := []) (rest := []) (st1 := [.int r_569]) (ws' := ((wLR X x0 hh ht ch tx y hy rP fP rT fT rG fG rL fL rH fH gi di re ti rPT fPT rTT fTT rGT fGT rLT fLT rHT fHT giT diT reT tiT rS fS rB fB rO fO pl fa cn ro Qh) ++ (wOut X o0 fo_563) ++ (wMo X mo al sv sm asd th_567 ho fr txt tl pos od nu su))) (nL := 9) ⟨hx, hb, hml, hown, hts⟩ (c_X6_thrown l X mo al sv sm asd th_567 ho fr txt tl pos od nu su r_569 hc_570) (cwV 0 hts gL_law_X6_thrown rfl rfl rfl (by decide +kernel) ⟨Nat.le_of_ble_eq_true rfl, Nat.le_of_ble_eq_true rfl⟩) 6 rfl rfl rfl rfl hl.1 rfl (Nat.le_of_ble_eq_true rfl) dL_law_1603 hK hP (hD0.addr (wLw_fst.trans wLw_fst.symm)) hS hA [78, 79, 80, 81, 82, 83, 84, 85] (by decide +kernel) wC_m (pt_setid _ _ _ wC_m) rfl ⟨(by show cl + 1 ≤ 601024; omega), (by show sl + 6 ≤ 7293034; omega)⟩ (fun H locs hP hD hS => ?_)
                                                  refine lv_iload hx hb dL_law_1606 (lv_at hl 1 rfl) ?_
                                                  refine lv_icmp_eq (tgt := 1613) hx hb dL_law_1608 (by decide) (fun c_571 => ?_) (fun c_571 => ?_)
                                                  · replace hf := fp_t c_571 hf
                                                    refine lv_iload hx hb dL_law_1613 (lv_at hl 1 rfl) ?_
                                                    refine lv_if_ne (tgt := 1630) hx hb dL_law_1615 (by decide) (fun c_572 => ?_) (fun c_572 => ?_)
                                                    · replace hf := fp_f c_572 hf
                                                      refine lv_goto (tgt := 1814) hx hb dL_law_1630 (by decide) ?_
                                                      obtain ⟨v_573, ev_573⟩ : ∃ y : Int32, y = x4 + (6 : Int32) := ⟨_, rfl⟩
                                                      replace hf := nm_of ev_573 hf
                                                      refine lv_iinc (v := v_573) (lv' := [(4, .int v_573), (6, .int r_566), (5, .int r_562), (0, .ref b), (1, .ref (x0)), (2, .ref (mo 0)), (3, .ref (o0))]) hx hb dL_law_1814 hl (k := 6) rfl (by rw [ev_573]; rfl) (by decide) rfl (fun ls hl => ?_)
                                                      refine lv_goto (tgt := 23) hx hb dL_law_1817 (by decide) ?_
                                                      exact ih v_573 rP fP rT fT rG fG rL fL rH fH gi di re ti rPT fPT rTT fTT rGT fGT rLT fLT rHT fHT giT diT reT tiT fS rB fB rO fO pl fa cn ro Qh fo_563 al sv sm asd th_567 ho fr txt tl pos od nu su (cl + 1) (sl + 6) _ _ _ (by omega) (by omega) hf hP hS (lv_sub hl [3, 4, 5, 6, 0] rfl)
                                                    · replace hf := fp_t c_572 hf
                                                      refine lv_aload_n hx hb dL_law_1618 rfl (lv_at hl 5 rfl) ?_
                                                      refine lv_iconst (v := 0) hx hb dL_law_1619 (by decide) ?_
                                                      obtain ⟨hi_574, hf⟩ := ix_of hf
                                                      refine va_lald hx hb hK.1 hP 77 1 (get_mid 77 rfl) rfl hi_574 dL_law_1620 ?_
                                                      refine lv_iload hx hb dL_law_1621 (lv_at hl 0 rfl) ?_
                                                      refine lv_i2l (v := r_566.toInt64) hx hb dL_law_1623 rfl ?_
                                                      refine W.lcmp hx hb dL_law_1624 ?_
                                                      refine lv_if_eq (tgt := 1630) hx hb dL_law_1625 (by decide) (fun c_575 => ?_) (fun c_575 => ?_)
                                                      · replace hf := fp_t c_575 hf
                                                        refine lv_goto (tgt := 1814) hx hb dL_law_1630 (by decide) ?_
                                                        obtain ⟨v_576, ev_576⟩ : ∃ y : Int32, y = x4 + (6 : Int32) := ⟨_, rfl⟩
                                                        replace hf := nm_of ev_576 hf
                                                        refine lv_iinc (v := v_576) (lv' := [(4, .int v_576), (6, .int r_566), (5, .int r_562), (0, .ref b), (1, .ref (x0)), (2, .ref (mo 0)), (3, .ref (o0))]) hx hb dL_law_1814 hl (k := 6) rfl (by rw [ev_576]; rfl) (by decide) rfl (fun ls hl => ?_)
                                                        refine lv_goto (tgt := 23) hx hb dL_law_1817 (by decide) ?_
                                                        exact ih v_576 rP fP rT fT rG fG rL fL rH fH gi di re ti rPT fPT rTT fTT rGT fGT rLT fLT rHT fHT giT diT reT tiT fS rB fB rO fO pl fa cn ro Qh fo_563 al sv sm asd th_567 ho fr txt tl pos od nu su (cl + 1) (sl + 6) _ _ _ (by omega) (by omega) hf hP hS (lv_sub hl [3, 4, 5, 6, 0] rfl)
                                                      · replace hf := fp_f c_575 hf
                                                        refine lv_iconst (v := 0) hx hb dL_law_1628 (by decide) ?_
                                                        exact absurd (Option.some.inj hf) (by decide)
                                                  · replace hf := fp_f c_571 hf
                                                    refine lv_iconst (v := 0) hx hb dL_law_1611 (by decide) ?_
                                                    exact absurd (Option.some.inj hf) (by decide)
                                                · replace hf := fp_f c_560 hf
                                                  by_cases c_577 : v_3 = (22 : Int32)
                                                  · replace hf := fp_t c_577 hf
                                                    refine lv_tableIn (off := 1593) (tgt := 1633) hx hb dL_law_40 (by rw [c_577]; decide) (by rw [c_577]; decide) (by rw [c_577]; rfl) (by decide) ?_
                                                    refine lv_aload_n hx hb dL_law_1633 rfl (lv_at hl 1 rfl) ?_
                                                    obtain ⟨r_578, fS_579, hc_580, hf⟩ := bd2_of hf
                                                    refine fn_VJ (v := some (.double r_578)) (As := []) (rest := []) (st1 := [.double r_578]) (ws' := ((wLR X x0 hh ht ch tx y hy rP fP rT fT rG fG rL fL rH fH gi di re ti rPT fPT rTT fTT rGT fGT rLT fLT rHT fHT giT diT reT tiT rS fS_579 rB fB rO fO pl fa cn ro Qh) ++ (wOut X o0 fo) ++ (wMo X mo al sv sm asd th ho fr txt tl pos od nu su))) (nL := 9) ⟨hx, hb, hml, hown, hts⟩ (c_X5_meanChain l X x0 hh ht ch tx y hy rP fP rT fT rG fG rL fL rH fH gi di re ti rPT fPT rTT fTT rGT fGT rLT fLT rHT fHT giT diT reT tiT rS fS rB fB rO fO pl fa cn ro Qh r_578 fS_579 hc_580) (cwV 0 hts gL_law_X5_meanChain rfl rfl rfl (by decide +kernel) ⟨Nat.le_of_ble_eq_true rfl, Nat.le_of_ble_eq_true rfl⟩) 5 rfl rfl rfl rfl hl.1 rfl (Nat.le_of_ble_eq_true rfl) dL_law_1634 hK hP (hD0.addr (wLw_fst.trans wLw_fst.symm)) hS hA [0, 1, 2, 3, 4, 5, 6, 7, 8, 9, 10, 11, 12, 13, 14, 15, 16, 17, 18, 19, 20, 21, 22, 23, 24, 25, 26, 27, 28, 29, 30, 31, 32, 33, 34, 35, 36, 37, 38, 39, 40, 41, 42, 43, 44, 45, 46, 47, 48, 49, 50, 51, 52, 53, 54, 55, 56, 57, 58, 59, 60, 61, 62, 63, 64, 65, 66, 67, 68, 69, 70, 71, 72, 73, 74, 75, 76] (by decide +kernel) wC_l wJ_l (wLw_fst.trans wLw_fst.symm) rfl ⟨(by show cl ≤ 601024; omega), (by show sl ≤ 7293034; omega)⟩ (fun H locs hP hD hS => ?_)
                                                    refine lv_dstore (lv' := [(5, .double r_578), (0, .ref b), (1, .ref (x0)), (2, .ref (mo 0)), (3, .ref (o0)), (4, .int x4)]) hx hb dL_law_1637 hl (by decide) rfl (fun ls hl => ?_)
                                                    refine lv_aload_n hx hb dL_law_1639 rfl (lv_at hl 3 rfl) ?_
                                                    obtain ⟨r_581, th_582, ho_583, fr_584, hc_585, hf⟩ := bd4_of hf
                                                    refine fn_VJ (v := some (.double r_581)) (As := []) (rest := []) (st1 := [.double r_581]) (ws' := ((wLR X x0 hh ht ch tx y hy rP fP rT fT rG fG rL fL rH fH gi di re ti rPT fPT rTT fTT rGT fGT rLT fLT rHT fHT giT diT reT tiT rS fS_579 rB fB rO fO pl fa cn ro Qh) ++ (wOut X o0 fo) ++ (wMo X mo al sv sm asd th_582 ho_583 fr_584 txt tl pos od nu su))) (nL := 9) ⟨hx, hb, hml, hown, hts⟩ (c_X6_meanChain l X mo al sv sm asd th ho fr txt tl pos od nu su r_581 th_582 ho_583 fr_584 hc_585) (cwV 0 hts gL_law_X6_meanChain rfl rfl rfl (by decide +kernel) ⟨Nat.le_of_ble_eq_true rfl, Nat.le_of_ble_eq_true rfl⟩) 6 rfl rfl rfl rfl hl.1 rfl (Nat.le_of_ble_eq_true rfl) dL_law_1640 hK hP (hD0.addr (wLw_fst.trans wLw_fst.symm)) hS hA [78, 79, 80, 81, 82, 83, 84, 85] (by decide +kernel) wC_m wJ_m (wLw_fst.trans wLw_fst.symm) rfl ⟨(by show cl ≤ 601024; omega), (by show sl ≤ 7293034; omega)⟩ (fun H locs hP hD hS => ?_)
                                                    refine lv_dstore (lv' := [(7, .double r_581), (5, .double r_578), (0, .ref b), (1, .ref (x0)), (2, .ref (mo 0)), (3, .ref (o0)), (4, .int x4)]) hx hb dL_law_1643 hl (by decide) rfl (fun ls hl => ?_)
                                                    refine lv_dload hx hb dL_law_1645 (lv_at hl 1 rfl) ?_
                                                    refine lv_dload hx hb dL_law_1647 (lv_at hl 0 rfl) ?_
                                                    refine lv_dcmp hx hb dL_law_1649 ?_
                                                    refine lv_if_eq (tgt := 1671) hx hb dL_law_1650 (by decide) (fun c_586 => ?_) (fun c_586 => ?_)
                                                    · replace hf := fp_t c_586 hf
                                                      refine lv_goto (tgt := 1814) hx hb dL_law_1671 (by decide) ?_
                                                      obtain ⟨v_587, ev_587⟩ : ∃ y : Int32, y = x4 + (6 : Int32) := ⟨_, rfl⟩
                                                      replace hf := nm_of ev_587 hf
                                                      refine lv_iinc (v := v_587) (lv' := [(4, .int v_587), (7, .double r_581), (5, .double r_578), (0, .ref b), (1, .ref (x0)), (2, .ref (mo 0)), (3, .ref (o0))]) hx hb dL_law_1814 hl (k := 6) rfl (by rw [ev_587]; rfl) (by decide) rfl (fun ls hl => ?_)
                                                      refine lv_goto (tgt := 23) hx hb dL_law_1817 (by decide) ?_
                                                      exact ih v_587 rP fP rT fT rG fG rL fL rH fH gi di re ti rPT fPT rTT fTT rGT fGT rLT fLT rHT fHT giT diT reT tiT fS_579 rB fB rO fO pl fa cn ro Qh fo al sv sm asd th_582 ho_583 fr_584 txt tl pos od nu su cl sl _ _ _ (by omega) (by omega) hf hP hS (lv_sub hl [3, 4, 5, 6, 0] rfl)
                                                    · replace hf := fp_f c_586 hf
                                                      refine lv_dload hx hb dL_law_1653 (lv_at hl 1 rfl) ?_
                                                      refine lv_dload hx hb dL_law_1655 (lv_at hl 1 rfl) ?_
                                                      refine lv_dcmp hx hb dL_law_1657 ?_
                                                      refine lv_if_eq (tgt := 1669) hx hb dL_law_1658 (by decide) (fun c_588 => ?_) (fun c_588 => ?_)
                                                      · replace hf := fp_t c_588 hf
                                                        refine lv_iconst (v := 0) hx hb dL_law_1669 (by decide) ?_
                                                        exact absurd (Option.some.inj hf) (by decide)
                                                      · replace hf := fp_f c_588 hf
                                                        refine lv_dload hx hb dL_law_1661 (lv_at hl 0 rfl) ?_
                                                        refine lv_dload hx hb dL_law_1663 (lv_at hl 0 rfl) ?_
                                                        refine lv_dcmp hx hb dL_law_1665 ?_
                                                        refine lv_if_ne (tgt := 1671) hx hb dL_law_1666 (by decide) (fun c_589 => ?_) (fun c_589 => ?_)
                                                        · replace hf := fp_f c_589 hf
                                                          refine lv_goto (tgt := 1814) hx hb dL_law_1671 (by decide) ?_
                                                          obtain ⟨v_590, ev_590⟩ : ∃ y : Int32, y = x4 + (6 : Int32) := ⟨_, rfl⟩
                                                          replace hf := nm_of ev_590 hf
                                                          refine lv_iinc (v := v_590) (lv' := [(4, .int v_590), (7, .double r_581), (5, .double r_578), (0, .ref b), (1, .ref (x0)), (2, .ref (mo 0)), (3, .ref (o0))]) hx hb dL_law_1814 hl (k := 6) rfl (by rw [ev_590]; rfl) (by decide) rfl (fun ls hl => ?_)
                                                          refine lv_goto (tgt := 23) hx hb dL_law_1817 (by decide) ?_
                                                          exact ih v_590 rP fP rT fT rG fG rL fL rH fH gi di re ti rPT fPT rTT fTT rGT fGT rLT fLT rHT fHT giT diT reT tiT fS_579 rB fB rO fO pl fa cn ro Qh fo al sv sm asd th_582 ho_583 fr_584 txt tl pos od nu su cl sl _ _ _ (by omega) (by omega) hf hP hS (lv_sub hl [3, 4, 5, 6, 0] rfl)
                                                        · replace hf := fp_t c_589 hf
                                                          refine lv_iconst (v := 0) hx hb dL_law_1669 (by decide) ?_
                                                          exact absurd (Option.some.inj hf) (by decide)
                                                  · replace hf := fp_f c_577 hf
                                                    by_cases c_591 : v_3 = (23 : Int32)
                                                    · replace hf := fp_t c_591 hf
                                                      refine lv_tableIn (off := 1634) (tgt := 1674) hx hb dL_law_40 (by rw [c_591]; decide) (by rw [c_591]; decide) (by rw [c_591]; rfl) (by decide) ?_
                                                      refine lv_aload_n hx hb dL_law_1674 rfl (lv_at hl 1 rfl) ?_
                                                      refine lv_aload_n hx hb dL_law_1675 rfl (lv_at hl 0 rfl) ?_
                                                      refine lv_iload hx hb dL_law_1676 (lv_at hl 4 rfl) ?_
                                                      refine lv_iconst (v := 1) hx hb dL_law_1678 (by decide) ?_
                                                      refine lv_iadd hx hb dL_law_1679 ?_
                                                      obtain ⟨hi_592, hf⟩ := ix_of hf
                                                      refine va_sld hx hb hX hbl hbA hS hi_592 dL_law_1680 ?_
                                                      refine lv_aload_n hx hb dL_law_1681 rfl (lv_at hl 3 rfl) ?_
                                                      obtain ⟨r_593, rB_594, fB_595, fo_596, hc_597, hf⟩ := bd4_of hf
                                                      refine fw_S (v := some (.int r_593)) (As := [.ref (x0), .int (xs (x4 + (1 : Int32)).toNatClampNeg), .ref (o0)]) (rest := []) (st1 := [.int r_593]) (ws' := ((wLR X x0 hh ht ch tx y hy rP fP rT fT rG fG rL fL rH fH gi di re ti rPT fPT rTT fTT rGT fGT rLT fLT rHT fHT giT diT reT tiT rS fS rB_594 fB_595 rO fO pl fa cn ro Qh) ++ (wOut X o0 fo_596) ++ (wMo X mo al sv sm asd th ho fr txt tl pos od nu su))) (nL := 9) ⟨hx, hb, hml, hown, hts⟩ (c_L_append l hfl X x0 hh ht ch tx y hy o0 rP fP rT fT rG fG rL fL rH fH gi di re ti rPT fPT rTT fTT rGT fGT rLT fLT rHT fHT giT diT reT tiT rS fS rB fB rO fO pl fa cn ro Qh fo (xs (x4 + (1 : Int32)).toNatClampNeg) r_593 rB_594 fB_595 fo_596 hc_597) (vx_cwSW 3 hts gL_law_L_append rfl rfl rfl (by decide +kernel) ⟨Nat.le_of_ble_eq_true rfl, Nat.le_of_ble_eq_true rfl⟩) rfl hl.1 rfl (Nat.le_of_ble_eq_true rfl) dL_law_1682 hTS hTZ hK hP (hD0.addr (wLw_fst.trans wLw_fst.symm)) hS hA [0, 1, 2, 3, 4, 5, 6, 7, 8, 9, 10, 11, 12, 13, 14, 15, 16, 17, 18, 19, 20, 21, 22, 23, 24, 25, 26, 27, 28, 29, 30, 31, 32, 33, 34, 35, 36, 37, 38, 39, 40, 41, 42, 43, 44, 45, 46, 47, 48, 49, 50, 51, 52, 53, 54, 55, 56, 57, 58, 59, 60, 61, 62, 63, 64, 65, 66, 67, 68, 69, 70, 71, 72, 73, 74, 75, 76, 77] (by decide +kernel) wC_w wJ_w (wLw_fst.trans wLw_fst.symm) rfl ⟨(by show cl + 1 ≤ 601024; omega), (by show sl + 6 ≤ 7293034; omega)⟩ (fun H locs hP hD hS => ?_)
                                                      refine lv_istore (lv' := [(5, .int r_593), (0, .ref b), (1, .ref (x0)), (2, .ref (mo 0)), (3, .ref (o0)), (4, .int x4)]) hx hb dL_law_1685 hl (by decide) rfl (fun ls hl => ?_)
                                                      refine lv_aload_n hx hb dL_law_1687 rfl (lv_at hl 3 rfl) ?_
                                                      refine lv_aload_n hx hb dL_law_1688 rfl (lv_at hl 1 rfl) ?_
                                                      refine lv_iload hx hb dL_law_1689 (lv_at hl 5 rfl) ?_
                                                      refine lv_iconst (v := 1) hx hb dL_law_1691 (by decide) ?_
                                                      refine lv_iadd hx hb dL_law_1692 ?_
                                                      obtain ⟨hi_598, hf⟩ := ix_of hf
                                                      refine va_sld hx hb hX hbl hbA hS hi_598 dL_law_1693 ?_
                                                      obtain ⟨r_599, th_600, txt_601, tl_602, hc_603, hf⟩ := bd4_of hf
                                                      refine fn_VJ (v := some (.int r_599)) (As := [.int (xs (x4 + (1 : Int32)).toNatClampNeg)]) (rest := []) (st1 := [.int r_599]) (ws' := ((wLR X x0 hh ht ch tx y hy rP fP rT fT rG fG rL fL rH fH gi di re ti rPT fPT rTT fTT rGT fGT rLT fLT rHT fHT giT diT reT tiT rS fS rB_594 fB_595 rO fO pl fa cn ro Qh) ++ (wOut X o0 fo_596) ++ (wMo X mo al sv sm asd th_600 ho fr txt_601 tl_602 pos od nu su))) (nL := 9) ⟨hx, hb, hml, hown, hts⟩ (c_X6_append l X mo al sv sm asd th ho fr txt tl pos od nu su (xs (x4 + (1 : Int32)).toNatClampNeg) r_599 th_600 txt_601 tl_602 hc_603) (cwV 1 hts gL_law_X6_append rfl rfl rfl (by decide +kernel) ⟨Nat.le_of_ble_eq_true rfl, Nat.le_of_ble_eq_true rfl⟩) 6 rfl rfl rfl rfl hl.1 rfl (Nat.le_of_ble_eq_true rfl) dL_law_1694 hK hP (hD0.addr (wLw_fst.trans wLw_fst.symm)) hS hA [78, 79, 80, 81, 82, 83, 84, 85] (by decide +kernel) wC_m wJ_m (wLw_fst.trans wLw_fst.symm) rfl ⟨(by show cl + 1 ≤ 601024; omega), (by show sl + 6 ≤ 7293034; omega)⟩ (fun H locs hP hD hS => ?_)
                                                      refine lv_istore (lv' := [(6, .int r_599), (5, .int r_593), (0, .ref b), (1, .ref (x0)), (2, .ref (mo 0)), (3, .ref (o0)), (4, .int x4)]) hx hb dL_law_1697 hl (by decide) rfl (fun ls hl => ?_)
                                                      refine lv_aload_n hx hb dL_law_1699 rfl (lv_at hl 4 rfl) ?_
                                                      obtain ⟨r_604, hc_605, hf⟩ := bd_of hf
                                                      refine fn_V (v := some (.int r_604)) (As := []) (rest := []) (st1 := [.int r_604]) (ws' := ((wLR X x0 hh ht ch tx y hy rP fP rT fT rG fG rL fL rH fH gi di re ti rPT fPT rTT fTT rGT fGT rLT fLT rHT fHT giT diT reT tiT rS fS rB_594 fB_595 rO fO pl fa cn ro Qh) ++ (wOut X o0 fo_596) ++ (wMo X mo al sv sm asd th_600 ho fr txt_601 tl_602 pos od nu su))) (nL := 9) ⟨hx, hb, hml, hown, hts⟩ (c_X6_thrown l X mo al sv sm asd th_600 ho fr txt_601 tl_602 pos od nu su r_604 hc_605) (cwV 0 hts gL_law_X6_thrown rfl rfl rfl (by decide +kernel) ⟨Nat.le_of_ble_eq_true rfl, Nat.le_of_ble_eq_true rfl⟩) 6 rfl rfl rfl rfl hl.1 rfl (Nat.le_of_ble_eq_true rfl) dL_law_1700 hK hP (hD0.addr (wLw_fst.trans wLw_fst.symm)) hS hA [78, 79, 80, 81, 82, 83, 84, 85] (by decide +kernel) wC_m (pt_setid _ _ _ wC_m) rfl ⟨(by show cl + 1 ≤ 601024; omega), (by show sl + 6 ≤ 7293034; omega)⟩ (fun H locs hP hD hS => ?_)
                                                      refine lv_iload hx hb dL_law_1703 (lv_at hl 1 rfl) ?_
                                                      refine lv_icmp_eq (tgt := 1710) hx hb dL_law_1705 (by decide) (fun c_606 => ?_) (fun c_606 => ?_)
                                                      · replace hf := fp_t c_606 hf
                                                        refine lv_iload hx hb dL_law_1710 (lv_at hl 1 rfl) ?_
                                                        refine lv_if_ne (tgt := 1727) hx hb dL_law_1712 (by decide) (fun c_607 => ?_) (fun c_607 => ?_)
                                                        · replace hf := fp_f c_607 hf
                                                          refine lv_goto (tgt := 1814) hx hb dL_law_1727 (by decide) ?_
                                                          obtain ⟨v_608, ev_608⟩ : ∃ y : Int32, y = x4 + (6 : Int32) := ⟨_, rfl⟩
                                                          replace hf := nm_of ev_608 hf
                                                          refine lv_iinc (v := v_608) (lv' := [(4, .int v_608), (6, .int r_599), (5, .int r_593), (0, .ref b), (1, .ref (x0)), (2, .ref (mo 0)), (3, .ref (o0))]) hx hb dL_law_1814 hl (k := 6) rfl (by rw [ev_608]; rfl) (by decide) rfl (fun ls hl => ?_)
                                                          refine lv_goto (tgt := 23) hx hb dL_law_1817 (by decide) ?_
                                                          exact ih v_608 rP fP rT fT rG fG rL fL rH fH gi di re ti rPT fPT rTT fTT rGT fGT rLT fLT rHT fHT giT diT reT tiT fS rB_594 fB_595 rO fO pl fa cn ro Qh fo_596 al sv sm asd th_600 ho fr txt_601 tl_602 pos od nu su (cl + 1) (sl + 6) _ _ _ (by omega) (by omega) hf hP hS (lv_sub hl [3, 4, 5, 6, 0] rfl)
                                                        · replace hf := fp_t c_607 hf
                                                          refine lv_aload_n hx hb dL_law_1715 rfl (lv_at hl 5 rfl) ?_
                                                          refine lv_iconst (v := 0) hx hb dL_law_1716 (by decide) ?_
                                                          obtain ⟨hi_609, hf⟩ := ix_of hf
                                                          refine va_lald hx hb hK.1 hP 77 1 (get_mid 77 rfl) rfl hi_609 dL_law_1717 ?_
                                                          refine lv_iload hx hb dL_law_1718 (lv_at hl 0 rfl) ?_
                                                          refine lv_i2l (v := r_599.toInt64) hx hb dL_law_1720 rfl ?_
                                                          refine W.lcmp hx hb dL_law_1721 ?_
                                                          refine lv_if_eq (tgt := 1727) hx hb dL_law_1722 (by decide) (fun c_610 => ?_) (fun c_610 => ?_)
                                                          · replace hf := fp_t c_610 hf
                                                            refine lv_goto (tgt := 1814) hx hb dL_law_1727 (by decide) ?_
                                                            obtain ⟨v_611, ev_611⟩ : ∃ y : Int32, y = x4 + (6 : Int32) := ⟨_, rfl⟩
                                                            replace hf := nm_of ev_611 hf
                                                            refine lv_iinc (v := v_611) (lv' := [(4, .int v_611), (6, .int r_599), (5, .int r_593), (0, .ref b), (1, .ref (x0)), (2, .ref (mo 0)), (3, .ref (o0))]) hx hb dL_law_1814 hl (k := 6) rfl (by rw [ev_611]; rfl) (by decide) rfl (fun ls hl => ?_)
                                                            refine lv_goto (tgt := 23) hx hb dL_law_1817 (by decide) ?_
                                                            exact ih v_611 rP fP rT fT rG fG rL fL rH fH gi di re ti rPT fPT rTT fTT rGT fGT rLT fLT rHT fHT giT diT reT tiT fS rB_594 fB_595 rO fO pl fa cn ro Qh fo_596 al sv sm asd th_600 ho fr txt_601 tl_602 pos od nu su (cl + 1) (sl + 6) _ _ _ (by omega) (by omega) hf hP hS (lv_sub hl [3, 4, 5, 6, 0] rfl)
                                                          · replace hf := fp_f c_610 hf
                                                            refine lv_iconst (v := 0) hx hb dL_law_1725 (by decide) ?_
                                                            exact absurd (Option.some.inj hf) (by decide)
                                                      · replace hf := fp_f c_606 hf
                                                        refine lv_iconst (v := 0) hx hb dL_law_1708 (by decide) ?_
                                                        exact absurd (Option.some.inj hf) (by decide)
                                                    · replace hf := fp_f c_591 hf
                                                      by_cases c_612 : v_3 = (24 : Int32)
                                                      · replace hf := fp_t c_612 hf
                                                        refine lv_tableIn (off := 1690) (tgt := 1730) hx hb dL_law_40 (by rw [c_612]; decide) (by rw [c_612]; decide) (by rw [c_612]; rfl) (by decide) ?_
                                                        refine lv_aload_n hx hb dL_law_1730 rfl (lv_at hl 1 rfl) ?_
                                                        obtain ⟨r_613, rB_614, hc_615, hf⟩ := bd2_of hf
                                                        refine fn_VJ (v := some (.int r_613)) (As := []) (rest := []) (st1 := [.int r_613]) (ws' := ((wLR X x0 hh ht ch tx y hy rP fP rT fT rG fG rL fL rH fH gi di re ti rPT fPT rTT fTT rGT fGT rLT fLT rHT fHT giT diT reT tiT rS fS rB_614 fB rO fO pl fa cn ro Qh) ++ (wOut X o0 fo) ++ (wMo X mo al sv sm asd th ho fr txt tl pos od nu su))) (nL := 9) ⟨hx, hb, hml, hown, hts⟩ (c_X5_clearText l X x0 hh ht ch tx y hy rP fP rT fT rG fG rL fL rH fH gi di re ti rPT fPT rTT fTT rGT fGT rLT fLT rHT fHT giT diT reT tiT rS fS rB fB rO fO pl fa cn ro Qh r_613 rB_614 hc_615) (cwV 0 hts gL_law_X5_clearText rfl rfl rfl (by decide +kernel) ⟨Nat.le_of_ble_eq_true rfl, Nat.le_of_ble_eq_true rfl⟩) 5 rfl rfl rfl rfl hl.1 rfl (Nat.le_of_ble_eq_true rfl) dL_law_1731 hK hP (hD0.addr (wLw_fst.trans wLw_fst.symm)) hS hA [0, 1, 2, 3, 4, 5, 6, 7, 8, 9, 10, 11, 12, 13, 14, 15, 16, 17, 18, 19, 20, 21, 22, 23, 24, 25, 26, 27, 28, 29, 30, 31, 32, 33, 34, 35, 36, 37, 38, 39, 40, 41, 42, 43, 44, 45, 46, 47, 48, 49, 50, 51, 52, 53, 54, 55, 56, 57, 58, 59, 60, 61, 62, 63, 64, 65, 66, 67, 68, 69, 70, 71, 72, 73, 74, 75, 76] (by decide +kernel) wC_l wJ_l (wLw_fst.trans wLw_fst.symm) rfl ⟨(by show cl ≤ 601024; omega), (by show sl ≤ 7293034; omega)⟩ (fun H locs hP hD hS => ?_)
                                                        refine lv_aload_n hx hb dL_law_1734 rfl (lv_at hl 2 rfl) ?_
                                                        obtain ⟨r_616, th_617, tl_618, hc_619, hf⟩ := bd3_of hf
                                                        refine fn_VJ (v := some (.int r_616)) (As := []) (rest := [.int r_613]) (st1 := [.int r_616, .int r_613]) (ws' := ((wLR X x0 hh ht ch tx y hy rP fP rT fT rG fG rL fL rH fH gi di re ti rPT fPT rTT fTT rGT fGT rLT fLT rHT fHT giT diT reT tiT rS fS rB_614 fB rO fO pl fa cn ro Qh) ++ (wOut X o0 fo) ++ (wMo X mo al sv sm asd th_617 ho fr txt tl_618 pos od nu su))) (nL := 9) ⟨hx, hb, hml, hown, hts⟩ (c_X6_clearText l X mo al sv sm asd th ho fr txt tl pos od nu su r_616 th_617 tl_618 hc_619) (cwV 0 hts gL_law_X6_clearText rfl rfl rfl (by decide +kernel) ⟨Nat.le_of_ble_eq_true rfl, Nat.le_of_ble_eq_true rfl⟩) 6 rfl rfl rfl rfl hl.1 rfl (Nat.le_of_ble_eq_true rfl) dL_law_1735 hK hP (hD0.addr (wLw_fst.trans wLw_fst.symm)) hS hA [78, 79, 80, 81, 82, 83, 84, 85] (by decide +kernel) wC_m wJ_m (wLw_fst.trans wLw_fst.symm) rfl ⟨(by show cl ≤ 601024; omega), (by show sl ≤ 7293034; omega)⟩ (fun H locs hP hD hS => ?_)
                                                        refine lv_icmp_eq (tgt := 1814) hx hb dL_law_1738 (by decide) (fun c_620 => ?_) (fun c_620 => ?_)
                                                        · replace hf := fp_t c_620 hf
                                                          obtain ⟨v_621, ev_621⟩ : ∃ y : Int32, y = x4 + (6 : Int32) := ⟨_, rfl⟩
                                                          replace hf := nm_of ev_621 hf
                                                          refine lv_iinc (v := v_621) (lv' := [(4, .int v_621), (0, .ref b), (1, .ref (x0)), (2, .ref (mo 0)), (3, .ref (o0))]) hx hb dL_law_1814 hl (k := 4) rfl (by rw [ev_621]; rfl) (by decide) rfl (fun ls hl => ?_)
                                                          refine lv_goto (tgt := 23) hx hb dL_law_1817 (by decide) ?_
                                                          exact ih v_621 rP fP rT fT rG fG rL fL rH fH gi di re ti rPT fPT rTT fTT rGT fGT rLT fLT rHT fHT giT diT reT tiT fS rB_614 fB rO fO pl fa cn ro Qh fo al sv sm asd th_617 ho fr txt tl_618 pos od nu su cl sl _ _ _ (by omega) (by omega) hf hP hS (lv_sub hl [1, 2, 3, 4, 0] rfl)
                                                        · replace hf := fp_f c_620 hf
                                                          refine lv_iconst (v := 0) hx hb dL_law_1741 (by decide) ?_
                                                          exact absurd (Option.some.inj hf) (by decide)
                                                      · replace hf := fp_f c_612 hf
                                                        by_cases c_622 : v_3 = (25 : Int32)
                                                        · replace hf := fp_t c_622 hf
                                                          refine lv_tableIn (off := 1703) (tgt := 1743) hx hb dL_law_40 (by rw [c_622]; decide) (by rw [c_622]; decide) (by rw [c_622]; rfl) (by decide) ?_
                                                          refine lv_aload_n hx hb dL_law_1743 rfl (lv_at hl 1 rfl) ?_
                                                          obtain ⟨r_623, fP_624, rG_625, fG_626, rL_627, fL_628, fH_629, gi_630, di_631, re_632, ti_633, rO_634, fO_635, pl_636, fa_637, cn_638, ro_639, Qh_640, hc_641, hf⟩ := bd18_of hf
                                                          refine fn_VJ (v := some (.int r_623)) (As := []) (rest := []) (st1 := [.int r_623]) (ws' := ((wLR X x0 hh ht ch tx y hy rP fP_624 rT fT rG_625 fG_626 rL_627 fL_628 rH fH_629 gi_630 di_631 re_632 ti_633 rPT fPT rTT fTT rGT fGT rLT fLT rHT fHT giT diT reT tiT rS fS rB fB rO_634 fO_635 pl_636 fa_637 cn_638 ro_639 Qh_640) ++ (wOut X o0 fo) ++ (wMo X mo al sv sm asd th ho fr txt tl pos od nu su))) (nL := 9) ⟨hx, hb, hml, hown, hts⟩ (c_X5_carryOut l X x0 hh ht ch tx y hy rP fP rT fT rG fG rL fL rH fH gi di re ti rPT fPT rTT fTT rGT fGT rLT fLT rHT fHT giT diT reT tiT rS fS rB fB rO fO pl fa cn ro Qh r_623 fP_624 rG_625 fG_626 rL_627 fL_628 fH_629 gi_630 di_631 re_632 ti_633 rO_634 fO_635 pl_636 fa_637 cn_638 ro_639 Qh_640 hc_641) (cwV 0 hts gL_law_X5_carryOut rfl rfl rfl (by decide +kernel) ⟨Nat.le_of_ble_eq_true rfl, Nat.le_of_ble_eq_true rfl⟩) 5 rfl rfl rfl rfl hl.1 rfl (Nat.le_of_ble_eq_true rfl) dL_law_1744 hK hP (hD0.addr (wLw_fst.trans wLw_fst.symm)) hS hA [0, 1, 2, 3, 4, 5, 6, 7, 8, 9, 10, 11, 12, 13, 14, 15, 16, 17, 18, 19, 20, 21, 22, 23, 24, 25, 26, 27, 28, 29, 30, 31, 32, 33, 34, 35, 36, 37, 38, 39, 40, 41, 42, 43, 44, 45, 46, 47, 48, 49, 50, 51, 52, 53, 54, 55, 56, 57, 58, 59, 60, 61, 62, 63, 64, 65, 66, 67, 68, 69, 70, 71, 72, 73, 74, 75, 76] (by decide +kernel) wC_l wJ_l (wLw_fst.trans wLw_fst.symm) rfl ⟨(by show cl ≤ 601024; omega), (by show sl ≤ 7293034; omega)⟩ (fun H locs hP hD hS => ?_)
                                                          refine lv_aload_n hx hb dL_law_1747 rfl (lv_at hl 2 rfl) ?_
                                                          obtain ⟨r_642, al_643, sv_644, sm_645, th_646, ho_647, pos_648, od_649, nu_650, hc_651, hf⟩ := bd9_of hf
                                                          refine fn_VJ (v := some (.int r_642)) (As := []) (rest := [.int r_623]) (st1 := [.int r_642, .int r_623]) (ws' := ((wLR X x0 hh ht ch tx y hy rP fP_624 rT fT rG_625 fG_626 rL_627 fL_628 rH fH_629 gi_630 di_631 re_632 ti_633 rPT fPT rTT fTT rGT fGT rLT fLT rHT fHT giT diT reT tiT rS fS rB fB rO_634 fO_635 pl_636 fa_637 cn_638 ro_639 Qh_640) ++ (wOut X o0 fo) ++ (wMo X mo al_643 sv_644 sm_645 asd th_646 ho_647 fr txt tl pos_648 od_649 nu_650 su))) (nL := 9) ⟨hx, hb, hml, hown, hts⟩ (c_X6_carryOut l X mo al sv sm asd th ho fr txt tl pos od nu su r_642 al_643 sv_644 sm_645 th_646 ho_647 pos_648 od_649 nu_650 hc_651) (cwV 0 hts gL_law_X6_carryOut rfl rfl rfl (by decide +kernel) ⟨Nat.le_of_ble_eq_true rfl, Nat.le_of_ble_eq_true rfl⟩) 6 rfl rfl rfl rfl hl.1 rfl (Nat.le_of_ble_eq_true rfl) dL_law_1748 hK hP (hD0.addr (wLw_fst.trans wLw_fst.symm)) hS hA [78, 79, 80, 81, 82, 83, 84, 85] (by decide +kernel) wC_m wJ_m (wLw_fst.trans wLw_fst.symm) rfl ⟨(by show cl ≤ 601024; omega), (by show sl ≤ 7293034; omega)⟩ (fun H locs hP hD hS => ?_)
                                                          refine lv_icmp_eq (tgt := 1814) hx hb dL_law_1751 (by decide) (fun c_652 => ?_) (fun c_652 => ?_)
                                                          · replace hf := fp_t c_652 hf
                                                            obtain ⟨v_653, ev_653⟩ : ∃ y : Int32, y = x4 + (6 : Int32) := ⟨_, rfl⟩
                                                            replace hf := nm_of ev_653 hf
                                                            refine lv_iinc (v := v_653) (lv' := [(4, .int v_653), (0, .ref b), (1, .ref (x0)), (2, .ref (mo 0)), (3, .ref (o0))]) hx hb dL_law_1814 hl (k := 4) rfl (by rw [ev_653]; rfl) (by decide) rfl (fun ls hl => ?_)
                                                            refine lv_goto (tgt := 23) hx hb dL_law_1817 (by decide) ?_
                                                            exact ih v_653 rP fP_624 rT fT rG_625 fG_626 rL_627 fL_628 rH fH_629 gi_630 di_631 re_632 ti_633 rPT fPT rTT fTT rGT fGT rLT fLT rHT fHT giT diT reT tiT fS rB fB rO_634 fO_635 pl_636 fa_637 cn_638 ro_639 Qh_640 fo al_643 sv_644 sm_645 asd th_646 ho_647 fr txt tl pos_648 od_649 nu_650 su cl sl _ _ _ (by omega) (by omega) hf hP hS (lv_sub hl [1, 2, 3, 4, 0] rfl)
                                                          · replace hf := fp_f c_652 hf
                                                            refine lv_iconst (v := 0) hx hb dL_law_1754 (by decide) ?_
                                                            exact absurd (Option.some.inj hf) (by decide)
                                                        · replace hf := fp_f c_622 hf
                                                          by_cases c_654 : v_3 = (26 : Int32)
                                                          · replace hf := fp_t c_654 hf
                                                            refine lv_tableIn (off := 1716) (tgt := 1756) hx hb dL_law_40 (by rw [c_654]; decide) (by rw [c_654]; decide) (by rw [c_654]; rfl) (by decide) ?_
                                                            refine lv_aload_n hx hb dL_law_1756 rfl (lv_at hl 1 rfl) ?_
                                                            refine lv_aload_n hx hb dL_law_1757 rfl (lv_at hl 3 rfl) ?_
                                                            obtain ⟨r_655, rP_656, fP_657, rT_658, fT_659, rG_660, fG_661, rL_662, fL_663, rH_664, fH_665, gi_666, di_667, re_668, ti_669, cn_670, fo_671, hc_672, hf⟩ := bd17_of hf
                                                            refine fw_S (v := some (.int r_655)) (As := [.ref (x0), .ref (o0)]) (rest := []) (st1 := [.int r_655]) (ws' := ((wLR X x0 hh ht ch tx y hy rP_656 fP_657 rT_658 fT_659 rG_660 fG_661 rL_662 fL_663 rH_664 fH_665 gi_666 di_667 re_668 ti_669 rPT fPT rTT fTT rGT fGT rLT fLT rHT fHT giT diT reT tiT rS fS rB fB rO fO pl fa cn_670 ro Qh) ++ (wOut X o0 fo_671) ++ (wMo X mo al sv sm asd th ho fr txt tl pos od nu su))) (nL := 9) ⟨hx, hb, hml, hown, hts⟩ (c_L_undo l hfl X x0 hh ht ch tx y hy o0 rP fP rT fT rG fG rL fL rH fH gi di re ti rPT fPT rTT fTT rGT fGT rLT fLT rHT fHT giT diT reT tiT rS fS rB fB rO fO pl fa cn ro Qh fo r_655 rP_656 fP_657 rT_658 fT_659 rG_660 fG_661 rL_662 fL_663 rH_664 fH_665 gi_666 di_667 re_668 ti_669 cn_670 fo_671 hc_672) (vx_cwSW 2 hts gL_law_L_undo rfl rfl rfl (by decide +kernel) ⟨Nat.le_of_ble_eq_true rfl, Nat.le_of_ble_eq_true rfl⟩) rfl hl.1 rfl (Nat.le_of_ble_eq_true rfl) dL_law_1758 hTS hTZ hK hP (hD0.addr (wLw_fst.trans wLw_fst.symm)) hS hA [0, 1, 2, 3, 4, 5, 6, 7, 8, 9, 10, 11, 12, 13, 14, 15, 16, 17, 18, 19, 20, 21, 22, 23, 24, 25, 26, 27, 28, 29, 30, 31, 32, 33, 34, 35, 36, 37, 38, 39, 40, 41, 42, 43, 44, 45, 46, 47, 48, 49, 50, 51, 52, 53, 54, 55, 56, 57, 58, 59, 60, 61, 62, 63, 64, 65, 66, 67, 68, 69, 70, 71, 72, 73, 74, 75, 76, 77] (by decide +kernel) wC_w wJ_w (wLw_fst.trans wLw_fst.symm) rfl ⟨(by show cl + 1 ≤ 601024; omega), (by show sl + 6 ≤ 7293034; omega)⟩ (fun H locs hP hD hS => ?_)
                                                            refine lv_istore (lv' := [(5, .int r_655), (0, .ref b), (1, .ref (x0)), (2, .ref (mo 0)), (3, .ref (o0)), (4, .int x4)]) hx hb dL_law_1761 hl (by decide) rfl (fun ls hl => ?_)
                                                            refine lv_aload_n hx hb dL_law_1763 rfl (lv_at hl 3 rfl) ?_
                                                            obtain ⟨r_673, al_674, sm_675, th_676, hc_677, hf⟩ := bd4_of hf
                                                            refine fn_VJ (v := some (.int r_673)) (As := []) (rest := []) (st1 := [.int r_673]) (ws' := ((wLR X x0 hh ht ch tx y hy rP_656 fP_657 rT_658 fT_659 rG_660 fG_661 rL_662 fL_663 rH_664 fH_665 gi_666 di_667 re_668 ti_669 rPT fPT rTT fTT rGT fGT rLT fLT rHT fHT giT diT reT tiT rS fS rB fB rO fO pl fa cn_670 ro Qh) ++ (wOut X o0 fo_671) ++ (wMo X mo al_674 sv sm_675 asd th_676 ho fr txt tl pos od nu su))) (nL := 9) ⟨hx, hb, hml, hown, hts⟩ (c_X6_undo l X mo al sv sm asd th ho fr txt tl pos od nu su r_673 al_674 sm_675 th_676 hc_677) (cwV 0 hts gL_law_X6_undo rfl rfl rfl (by decide +kernel) ⟨Nat.le_of_ble_eq_true rfl, Nat.le_of_ble_eq_true rfl⟩) 6 rfl rfl rfl rfl hl.1 rfl (Nat.le_of_ble_eq_true rfl) dL_law_1764 hK hP (hD0.addr (wLw_fst.trans wLw_fst.symm)) hS hA [78, 79, 80, 81, 82, 83, 84, 85] (by decide +kernel) wC_m wJ_m (wLw_fst.trans wLw_fst.symm) rfl ⟨(by show cl + 1 ≤ 601024; omega), (by show sl + 6 ≤ 7293034; omega)⟩ (fun H locs hP hD hS => ?_)
                                                            refine lv_istore (lv' := [(6, .int r_673), (5, .int r_655), (0, .ref b), (1, .ref (x0)), (2, .ref (mo 0)), (3, .ref (o0)), (4, .int x4)]) hx hb dL_law_1767 hl (by decide) rfl (fun ls hl => ?_)
                                                            refine lv_aload_n hx hb dL_law_1769 rfl (lv_at hl 4 rfl) ?_
                                                            obtain ⟨r_678, hc_679, hf⟩ := bd_of hf
                                                            refine fn_V (v := some (.int r_678)) (As := []) (rest := []) (st1 := [.int r_678]) (ws' := ((wLR X x0 hh ht ch tx y hy rP_656 fP_657 rT_658 fT_659 rG_660 fG_661 rL_662 fL_663 rH_664 fH_665 gi_666 di_667 re_668 ti_669 rPT fPT rTT fTT rGT fGT rLT fLT rHT fHT giT diT reT tiT rS fS rB fB rO fO pl fa cn_670 ro Qh) ++ (wOut X o0 fo_671) ++ (wMo X mo al_674 sv sm_675 asd th_676 ho fr txt tl pos od nu su))) (nL := 9) ⟨hx, hb, hml, hown, hts⟩ (c_X6_thrown l X mo al_674 sv sm_675 asd th_676 ho fr txt tl pos od nu su r_678 hc_679) (cwV 0 hts gL_law_X6_thrown rfl rfl rfl (by decide +kernel) ⟨Nat.le_of_ble_eq_true rfl, Nat.le_of_ble_eq_true rfl⟩) 6 rfl rfl rfl rfl hl.1 rfl (Nat.le_of_ble_eq_true rfl) dL_law_1770 hK hP (hD0.addr (wLw_fst.trans wLw_fst.symm)) hS hA [78, 79, 80, 81, 82, 83, 84, 85] (by decide +kernel) wC_m (pt_setid _ _ _ wC_m) rfl ⟨(by show cl + 1 ≤ 601024; omega), (by show sl + 6 ≤ 7293034; omega)⟩ (fun H locs hP hD hS => ?_)
                                                            refine lv_iload hx hb dL_law_1773 (lv_at hl 1 rfl) ?_
                                                            refine lv_icmp_eq (tgt := 1780) hx hb dL_law_1775 (by decide) (fun c_680 => ?_) (fun c_680 => ?_)
                                                            · replace hf := fp_t c_680 hf
                                                              refine lv_iload hx hb dL_law_1780 (lv_at hl 1 rfl) ?_
                                                              refine lv_if_ne (tgt := 1797) hx hb dL_law_1782 (by decide) (fun c_681 => ?_) (fun c_681 => ?_)
                                                              · replace hf := fp_f c_681 hf
                                                                refine lv_goto (tgt := 1814) hx hb dL_law_1797 (by decide) ?_
                                                                obtain ⟨v_682, ev_682⟩ : ∃ y : Int32, y = x4 + (6 : Int32) := ⟨_, rfl⟩
                                                                replace hf := nm_of ev_682 hf
                                                                refine lv_iinc (v := v_682) (lv' := [(4, .int v_682), (6, .int r_673), (5, .int r_655), (0, .ref b), (1, .ref (x0)), (2, .ref (mo 0)), (3, .ref (o0))]) hx hb dL_law_1814 hl (k := 6) rfl (by rw [ev_682]; rfl) (by decide) rfl (fun ls hl => ?_)
                                                                refine lv_goto (tgt := 23) hx hb dL_law_1817 (by decide) ?_
                                                                exact ih v_682 rP_656 fP_657 rT_658 fT_659 rG_660 fG_661 rL_662 fL_663 rH_664 fH_665 gi_666 di_667 re_668 ti_669 rPT fPT rTT fTT rGT fGT rLT fLT rHT fHT giT diT reT tiT fS rB fB rO fO pl fa cn_670 ro Qh fo_671 al_674 sv sm_675 asd th_676 ho fr txt tl pos od nu su (cl + 1) (sl + 6) _ _ _ (by omega) (by omega) hf hP hS (lv_sub hl [3, 4, 5, 6, 0] rfl)
                                                              · replace hf := fp_t c_681 hf
                                                                refine lv_aload_n hx hb dL_law_1785 rfl (lv_at hl 5 rfl) ?_
                                                                refine lv_iconst (v := 0) hx hb dL_law_1786 (by decide) ?_
                                                                obtain ⟨hi_683, hf⟩ := ix_of hf
                                                                refine va_lald hx hb hK.1 hP 77 1 (get_mid 77 rfl) rfl hi_683 dL_law_1787 ?_
                                                                refine lv_iload hx hb dL_law_1788 (lv_at hl 0 rfl) ?_
                                                                refine lv_i2l (v := r_673.toInt64) hx hb dL_law_1790 rfl ?_
                                                                refine W.lcmp hx hb dL_law_1791 ?_
                                                                refine lv_if_eq (tgt := 1797) hx hb dL_law_1792 (by decide) (fun c_684 => ?_) (fun c_684 => ?_)
                                                                · replace hf := fp_t c_684 hf
                                                                  refine lv_goto (tgt := 1814) hx hb dL_law_1797 (by decide) ?_
                                                                  obtain ⟨v_685, ev_685⟩ : ∃ y : Int32, y = x4 + (6 : Int32) := ⟨_, rfl⟩
                                                                  replace hf := nm_of ev_685 hf
                                                                  refine lv_iinc (v := v_685) (lv' := [(4, .int v_685), (6, .int r_673), (5, .int r_655), (0, .ref b), (1, .ref (x0)), (2, .ref (mo 0)), (3, .ref (o0))]) hx hb dL_law_1814 hl (k := 6) rfl (by rw [ev_685]; rfl) (by decide) rfl (fun ls hl => ?_)
                                                                  refine lv_goto (tgt := 23) hx hb dL_law_1817 (by decide) ?_
                                                                  exact ih v_685 rP_656 fP_657 rT_658 fT_659 rG_660 fG_661 rL_662 fL_663 rH_664 fH_665 gi_666 di_667 re_668 ti_669 rPT fPT rTT fTT rGT fGT rLT fLT rHT fHT giT diT reT tiT fS rB fB rO fO pl fa cn_670 ro Qh fo_671 al_674 sv sm_675 asd th_676 ho fr txt tl pos od nu su (cl + 1) (sl + 6) _ _ _ (by omega) (by omega) hf hP hS (lv_sub hl [3, 4, 5, 6, 0] rfl)
                                                                · replace hf := fp_f c_684 hf
                                                                  refine lv_iconst (v := 0) hx hb dL_law_1795 (by decide) ?_
                                                                  exact absurd (Option.some.inj hf) (by decide)
                                                            · replace hf := fp_f c_680 hf
                                                              refine lv_iconst (v := 0) hx hb dL_law_1778 (by decide) ?_
                                                              exact absurd (Option.some.inj hf) (by decide)
                                                          · replace hf := fp_f c_654 hf
                                                            by_cases c_686 : v_3 = (27 : Int32)
                                                            · replace hf := fp_t c_686 hf
                                                              refine lv_tableIn (off := 1760) (tgt := 1800) hx hb dL_law_40 (by rw [c_686]; decide) (by rw [c_686]; decide) (by rw [c_686]; rfl) (by decide) ?_
                                                              refine lv_aload_n hx hb dL_law_1800 rfl (lv_at hl 1 rfl) ?_
                                                              obtain ⟨r_687, hc_688, hf⟩ := bd_of hf
                                                              refine fn_V (v := some (.long r_687)) (As := []) (rest := []) (st1 := [.long r_687]) (ws' := ((wLR X x0 hh ht ch tx y hy rP fP rT fT rG fG rL fL rH fH gi di re ti rPT fPT rTT fTT rGT fGT rLT fLT rHT fHT giT diT reT tiT rS fS rB fB rO fO pl fa cn ro Qh) ++ (wOut X o0 fo) ++ (wMo X mo al sv sm asd th ho fr txt tl pos od nu su))) (nL := 9) ⟨hx, hb, hml, hown, hts⟩ (c_X5_digest l X x0 hh ht ch tx y hy rP fP rT fT rG fG rL fL rH fH gi di re ti rPT fPT rTT fTT rGT fGT rLT fLT rHT fHT giT diT reT tiT rS fS rB fB rO fO pl fa cn ro Qh r_687 hc_688) (cwV 0 hts gL_law_X5_digest rfl rfl rfl (by decide +kernel) ⟨Nat.le_of_ble_eq_true rfl, Nat.le_of_ble_eq_true rfl⟩) 5 rfl rfl rfl rfl hl.1 rfl (Nat.le_of_ble_eq_true rfl) dL_law_1801 hK hP (hD0.addr (wLw_fst.trans wLw_fst.symm)) hS hA [0, 1, 2, 3, 4, 5, 6, 7, 8, 9, 10, 11, 12, 13, 14, 15, 16, 17, 18, 19, 20, 21, 22, 23, 24, 25, 26, 27, 28, 29, 30, 31, 32, 33, 34, 35, 36, 37, 38, 39, 40, 41, 42, 43, 44, 45, 46, 47, 48, 49, 50, 51, 52, 53, 54, 55, 56, 57, 58, 59, 60, 61, 62, 63, 64, 65, 66, 67, 68, 69, 70, 71, 72, 73, 74, 75, 76] (by decide +kernel) wC_l (pt_setid _ _ _ wC_l) rfl ⟨(by show cl ≤ 601024; omega), (by show sl ≤ 7293034; omega)⟩ (fun H locs hP hD hS => ?_)
                                                              refine lv_aload_n hx hb dL_law_1804 rfl (lv_at hl 2 rfl) ?_
                                                              obtain ⟨r_689, th_690, ho_691, su_692, hc_693, hf⟩ := bd4_of hf
                                                              refine fn_VJ (v := some (.long r_689)) (As := []) (rest := [.long r_687]) (st1 := [.long r_689, .long r_687]) (ws' := ((wLR X x0 hh ht ch tx y hy rP fP rT fT rG fG rL fL rH fH gi di re ti rPT fPT rTT fTT rGT fGT rLT fLT rHT fHT giT diT reT tiT rS fS rB fB rO fO pl fa cn ro Qh) ++ (wOut X o0 fo) ++ (wMo X mo al sv sm asd th_690 ho_691 fr txt tl pos od nu su_692))) (nL := 9) ⟨hx, hb, hml, hown, hts⟩ (c_X6_digest l X mo al sv sm asd th ho fr txt tl pos od nu su r_689 th_690 ho_691 su_692 hc_693) (cwV 0 hts gL_law_X6_digest rfl rfl rfl (by decide +kernel) ⟨Nat.le_of_ble_eq_true rfl, Nat.le_of_ble_eq_true rfl⟩) 6 rfl rfl rfl rfl hl.1 rfl (Nat.le_of_ble_eq_true rfl) dL_law_1805 hK hP (hD0.addr (wLw_fst.trans wLw_fst.symm)) hS hA [78, 79, 80, 81, 82, 83, 84, 85] (by decide +kernel) wC_m wJ_m (wLw_fst.trans wLw_fst.symm) rfl ⟨(by show cl ≤ 601024; omega), (by show sl ≤ 7293034; omega)⟩ (fun H locs hP hD hS => ?_)
                                                              refine W.lcmp hx hb dL_law_1808 ?_
                                                              refine lv_if_eq (tgt := 1814) hx hb dL_law_1809 (by decide) (fun c_694 => ?_) (fun c_694 => ?_)
                                                              · replace hf := fp_t c_694 hf
                                                                obtain ⟨v_695, ev_695⟩ : ∃ y : Int32, y = x4 + (6 : Int32) := ⟨_, rfl⟩
                                                                replace hf := nm_of ev_695 hf
                                                                refine lv_iinc (v := v_695) (lv' := [(4, .int v_695), (0, .ref b), (1, .ref (x0)), (2, .ref (mo 0)), (3, .ref (o0))]) hx hb dL_law_1814 hl (k := 4) rfl (by rw [ev_695]; rfl) (by decide) rfl (fun ls hl => ?_)
                                                                refine lv_goto (tgt := 23) hx hb dL_law_1817 (by decide) ?_
                                                                exact ih v_695 rP fP rT fT rG fG rL fL rH fH gi di re ti rPT fPT rTT fTT rGT fGT rLT fLT rHT fHT giT diT reT tiT fS rB fB rO fO pl fa cn ro Qh fo al sv sm asd th_690 ho_691 fr txt tl pos od nu su_692 cl sl _ _ _ (by omega) (by omega) hf hP hS (lv_sub hl [1, 2, 3, 4, 0] rfl)
                                                              · replace hf := fp_f c_694 hf
                                                                refine lv_iconst (v := 0) hx hb dL_law_1812 (by decide) ?_
                                                                exact absurd (Option.some.inj hf) (by decide)
                                                            · replace hf := fp_f c_686 hf
                                                              have hsw : v_3.toInt < 0 ∨ (27 : Int) < v_3.toInt := by
                                                                refine sw_out (x := v_3) 27 (by decide) ?_
                                                                intro j hj
                                                                have hj2 : j = 0 ∨ j = 1 ∨ j = 2 ∨ j = 3 ∨ j = 4 ∨ j = 5 ∨ j = 6 ∨ j = 7 ∨ j = 8 ∨ j = 9 ∨ j = 10 ∨ j = 11 ∨ j = 12 ∨ j = 13 ∨ j = 14 ∨ j = 15 ∨ j = 16 ∨ j = 17 ∨ j = 18 ∨ j = 19 ∨ j = 20 ∨ j = 21 ∨ j = 22 ∨ j = 23 ∨ j = 24 ∨ j = 25 ∨ j = 26 ∨ j = 27 := by omega
                                                                rcases hj2 with rfl | rfl | rfl | rfl | rfl | rfl | rfl | rfl | rfl | rfl | rfl | rfl | rfl | rfl | rfl | rfl | rfl | rfl | rfl | rfl | rfl | rfl | rfl | rfl | rfl | rfl | rfl | rfl
                                                                · exact c_4
                                                                · exact c_33
                                                                · exact c_60
                                                                · exact c_86
                                                                · exact c_113
                                                                · exact c_149
                                                                · exact c_177
                                                                · exact c_209
                                                                · exact c_240
                                                                · exact c_260
                                                                · exact c_280
                                                                · exact c_300
                                                                · exact c_320
                                                                · exact c_342
                                                                · exact c_366
                                                                · exact c_388
                                                                · exact c_406
                                                                · exact c_425
                                                                · exact c_459
                                                                · exact c_484
                                                                · exact c_518
                                                                · exact c_560
                                                                · exact c_577
                                                                · exact c_591
                                                                · exact c_612
                                                                · exact c_622
                                                                · exact c_654
                                                                · exact c_686
                                                              refine lv_tableOut (tgt := 1814) hx hb dL_law_40 hsw (by decide) ?_
                                                              obtain ⟨v_696, ev_696⟩ : ∃ y : Int32, y = x4 + (6 : Int32) := ⟨_, rfl⟩
                                                              replace hf := nm_of ev_696 hf
                                                              refine lv_iinc (v := v_696) (lv' := [(4, .int v_696), (0, .ref b), (1, .ref (x0)), (2, .ref (mo 0)), (3, .ref (o0))]) hx hb dL_law_1814 hl (k := 4) rfl (by rw [ev_696]; rfl) (by decide) rfl (fun ls hl => ?_)
                                                              refine lv_goto (tgt := 23) hx hb dL_law_1817 (by decide) ?_
                                                              exact ih v_696 rP fP rT fT rG fG rL fL rH fH gi di re ti rPT fPT rTT fTT rGT fGT rLT fLT rHT fHT giT diT reT tiT fS rB fB rO fO pl fa cn ro Qh fo al sv sm asd th ho fr txt tl pos od nu su cl sl _ _ _ (by omega) (by omega) hf hP hS (lv_sub hl [1, 2, 3, 4, 0] rfl)
