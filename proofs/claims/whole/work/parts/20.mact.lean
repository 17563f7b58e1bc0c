/-! THE MODEL'S act(): its loop -/
def md_L (dn : Nat) (a x0 : Int32) (l4 l5 : Option Value) : List (Option Value) := [some (.ref 0), some (.int (nI dn)), some (.int a), some (.int x0), l4, l5]
section MDA
variable {D F dn : Nat} {a x0 : Int32} {l4 l5 : Option Value} {Q : Option Value → mi_H → Prop} {n m stt pl : Int32} {q : List Int32 × Nat} {kO vO cO tO fm to rw an zi fB fX pi : List Int32}
theorem md_pre {pn : Nat} {o : Int32} {fa jA : List Int32} (hF : F < 1000) (hfa : fa.length = F) (hc : mi_cd[pn]? = some o)
  (k : mi_W D mi_m66 (74, md_L dn a x0 (some (.int (nI F))) (some (.int o)), [], mh n m stt (nI (F + 1)) pl q kO vO cO tO fm to rw an zi fB (fa ++ nI (pn + 1) :: jA) fX pi) Q) :
  mi_W D mi_m66 (34, md_L dn a x0 l4 l5, [], mh n m stt (nI (F + 1)) pl q kO vO cO tO fm to rw an zi fB (fa ++ nI pn :: jA) fX pi) Q := by
  have hi : (nI F).toNatClampNeg = F := nI_clamp (by omega)
  have hpl := (List.getElem?_eq_some_iff.mp hc).1
  have hpl2 : mi_cd.length ≤ 300 := by decide +kernel
  have hip : (nI pn).toNatClampNeg = pn := nI_clamp (by omega)
  have hg : (fa ++ nI pn :: jA)[F]? = some (nI pn) := by rw [← hfa]; exact md_get _ _ _
  have hs : (fa ++ nI pn :: jA).set F (nI (pn + 1)) = fa ++ nI (pn + 1) :: jA := by rw [← hfa]; exact md_set _ _ _ _
  refine w_aload_n mi_a66_34 rfl ?_
  refine w_get mi_a66_35 rfl rfl rfl ?_
  refine w_if_le mi_a66_38 262 (by decide) (fun c => absurd c (nI_nle (by omega) (by omega))) (fun _ => ?_)
  refine w_aload_n mi_a66_41 rfl ?_
  refine w_get mi_a66_42 rfl rfl rfl ?_
  refine w_iconstv (v := 1) mi_a66_45 (by decide) ?_
  refine w_isubv mi_a66_46 (nI_pred F) ?_
  refine w_istore mi_a66_47 (Nat.le_of_ble_eq_true rfl) ?_
  refine w_aload_n mi_a66_49 rfl ?_
  refine w_get mi_a66_50 rfl rfl rfl ?_
  refine w_aload_n mi_a66_53 rfl ?_
  refine w_get mi_a66_54 rfl rfl rfl ?_
  refine w_iload mi_a66_57 rfl ?_
  refine w_iald mi_a66_59 rfl (nI_pos (by omega)) (by rw [hi]; exact hg) ?_
  refine w_iald mi_a66_60 rfl (nI_pos (by omega)) (by rw [hip]; exact hc) ?_
  refine w_istore mi_a66_61 (Nat.le_of_ble_eq_true rfl) ?_
  refine w_aload_n mi_a66_63 rfl ?_
  refine w_get mi_a66_64 rfl rfl rfl ?_
  refine w_iload mi_a66_67 rfl ?_
  refine w_dup2 mi_a66_69 ⟨rfl, rfl⟩ ?_
  refine w_iald mi_a66_70 rfl (nI_pos (by omega)) (by rw [hi]; exact hg) ?_
  refine w_iconstv (v := 1) mi_a66_71 (by decide) ?_
  refine w_iaddv mi_a66_72 (nI_succ pn).symm ?_
  refine w_iast mi_a66_73 rfl (nI_pos (by omega)) (by rw [hi, ← hfa]; exact md_len _ _ _) ?_
  rw [hi, hs]
  exact k
theorem md_end {o : Int32} {fA : List Int32} (ho : 3000 ≤ o)
  (k : mi_W D mi_m66 (34, md_L dn a x0 (some (.int (nI F))) (some (.int o)), [], mh n m stt (nI F) pl q kO vO cO tO fm to rw an zi fB fA fX pi) Q) :
  mi_W D mi_m66 (74, md_L dn a x0 (some (.int (nI F))) (some (.int o)), [], mh n m stt (nI (F + 1)) pl q kO vO cO tO fm to rw an zi fB fA fX pi) Q := by
  refine w_iload mi_a66_74 rfl ?_
  refine w_sipushv (v := 3000) mi_a66_76 (by decide) ?_
  refine w_icmp_lt mi_a66_79 95 (by decide) (fun c => absurd c (Int32.not_lt.mpr ho)) (fun _ => ?_)
  refine w_aload_n mi_a66_82 rfl ?_
  refine w_dup mi_a66_83 rfl ?_
  refine w_get mi_a66_84 rfl rfl rfl ?_
  refine w_iconstv (v := 1) mi_a66_87 (by decide) ?_
  refine w_isubv mi_a66_88 (nI_pred F) ?_
  refine w_put mi_a66_89 rfl rfl (Nat.le_of_ble_eq_true rfl) rfl ?_
  refine w_goto mi_a66_92 259 (by decide) ?_
  refine w_goto mi_a66_259 34 (by decide) ?_
  exact k
theorem md_tail {G pc : Nat} {off : Int} {b2 y p2 jb ja jx : Int32} {FB FA FX jB jA jX pb jp : List Int32} {L : List (Option Value)} (h1 : mi_look mi_m66.1 pc = some (.aload_n 0, 1)) (h2 : mi_look mi_m66.1 (pc + 1) = some (.invokevirtual 112, 3)) (h3 : mi_look mi_m66.1 (pc + 1 + 3) = some (.invokevirtual 108, 3)) (h4 : mi_look mi_m66.1 (pc + 1 + 3 + 3) = some (.goto off, 3)) (h5 : ((pc + 1 + 3 + 3 : Nat) : Int) + off = ((259 : Nat) : Int)) (hL : L[0]? = some (some (.ref 0)))
  (hG : G < 900) (g1 : FB.length = G) (g2 : FA.length = G) (g3 : FX.length = G) (hb : ac_at mi_sta b2 = some p2) (hq : q.1.length = 64) (hn : q.2 + 1 < 2 ^ 31) (hp : pb.length < 900)
  (k : mi_W (D + 1) mi_m66 (34, L, [], mh n m stt (nI (G + 1)) (nI pb.length) (ac_kp [b2] q) kO vO cO tO fm to rw an zi (FB ++ b2 :: jB) (FA ++ p2 :: jA) (FX ++ y :: jX) (pb ++ y :: jp)) Q) :
  mi_W (D + 1) mi_m66 (pc, L, [.int b2, .ref 0], mh n m stt (nI G) (nI (pb.length + 1)) q kO vO cO tO fm to rw an zi (FB ++ jb :: jB) (FA ++ ja :: jA) (FX ++ jx :: jX) (pb ++ y :: jp)) Q := by
  refine w_aload_n h1 hL ?_
  refine w_callV h2 rfl rfl 0 ⟨rfl, rfl⟩ ⟨Nat.le_of_ble_eq_true rfl, Nat.le_of_ble_eq_true rfl⟩ rfl rfl rfl rfl (s_pop (by omega)) ?_
  rintro r' h' ⟨rfl, rfl⟩
  refine w_callV h3 rfl rfl 2 ⟨rfl, rfl⟩ ⟨Nat.le_of_ble_eq_true rfl, Nat.le_of_ble_eq_true rfl⟩ rfl rfl rfl rfl (s_enter (by omega) g1 g2 g3 hb hq hn) ?_
  rintro r' h' ⟨rfl, rfl⟩
  refine w_goto h4 259 h5 ?_
  refine w_goto mi_a66_259 34 (by decide) ?_
  exact k
theorem md_call {G k : Nat} {b o b2 y p2 jb ja jx : Int32} {FB FA FX jB jA jX pb jp : List Int32} (hG : G < 800) (g1 : FB.length = G + 1) (g2 : FA.length = G + 1) (g3 : FX.length = G + 1) (hfb : FB[G]? = some b) (hb0 : ¬ b < 0) (ho : 1100 ≤ o) (ho2 : o < 3000) (hsb : ac_sb (nI k) b o = some b2) (hb : ac_at mi_sta b2 = some p2) (hq : q.1.length = 64) (hn : q.2 + 1 < 2 ^ 31) (hp : pb.length < 900) (hdn : dn < 2 ^ 31) (hk : kO[dn]? = some (nI k))
  (kk : mi_W (D + 1) mi_m66 (34, md_L dn a x0 (some (.int (nI G))) (some (.int o)), [], mh n m stt (nI (G + 1 + 1)) (nI pb.length) (ac_kp [b2] q) kO vO cO tO fm to rw an zi (FB ++ b2 :: jB) (FA ++ p2 :: jA) (FX ++ y :: jX) (pb ++ y :: jp)) Q) :
  mi_W (D + 1) mi_m66 (74, md_L dn a x0 (some (.int (nI G))) (some (.int o)), [], mh n m stt (nI (G + 1)) (nI (pb.length + 1)) q kO vO cO tO fm to rw an zi (FB ++ jb :: jB) (FA ++ ja :: jA) (FX ++ jx :: jX) (pb ++ y :: jp)) Q := by
  have hi : (nI G).toNatClampNeg = G := nI_clamp (by omega)
  have hid : (nI dn).toNatClampNeg = dn := nI_clamp hdn
  have hfb2 : (FB ++ jb :: jB)[G]? = some b := by rw [List.getElem?_append_left (by omega)]; exact hfb
  unfold ac_sb at hsb
  refine w_iload mi_a66_74 rfl ?_
  refine w_sipushv (v := 3000) mi_a66_76 (by decide) ?_
  refine w_icmp_lt mi_a66_79 95 (by decide) (fun _ => ?_) (fun c => absurd ho2 c)
  refine w_iload mi_a66_95 rfl ?_
  refine w_sipushv (v := 2000) mi_a66_97 (by decide) ?_
  refine w_icmp_lt mi_a66_100 120 (by decide) (fun c1 => ?_) (fun c1 => ?_)
  rotate_left
  · rw [if_pos (Int32.not_lt.mp c1)] at hsb
    have e := Option.some.inj hsb
    subst e
    refine w_aload_n mi_a66_103 rfl ?_
    refine w_iload mi_a66_104 rfl ?_
    refine w_sipushv (v := 2000) mi_a66_106 (by decide) ?_
    refine w_isub mi_a66_109 ?_
    exact md_tail (G := G + 1) mi_a66_110 mi_a66_111 mi_a66_114 mi_a66_117 (by decide) rfl (by omega) g1 g2 g3 hb hq hn hp kk
  rw [if_neg (Int32.not_le.mpr c1)] at hsb
  refine w_iload mi_a66_120 rfl ?_
  refine w_sipushv (v := 1312) mi_a66_122 (by decide) ?_
  refine w_icmp_lt mi_a66_125 153 (by decide) (fun c2 => ?_) (fun c2 => ?_)
  rotate_left
  · rw [if_pos (Int32.not_lt.mp c2)] at hsb
    obtain ⟨s0, s1⟩ := ac_at_inv hsb
    refine w_aload_n mi_a66_128 rfl ?_
    refine w_aload_n mi_a66_129 rfl ?_
    refine w_get mi_a66_130 rfl rfl rfl ?_
    refine w_iload mi_a66_133 rfl ?_
    refine w_sipushv (v := 1312) mi_a66_135 (by decide) ?_
    refine w_isub mi_a66_138 ?_
    refine w_bipushv (v := 12) mi_a66_139 (by decide) ?_
    refine w_iadd mi_a66_141 ?_
    refine w_iald mi_a66_142 rfl s0 s1 ?_
    exact md_tail (G := G + 1) mi_a66_143 mi_a66_144 mi_a66_147 mi_a66_150 (by decide) rfl (by omega) g1 g2 g3 hb hq hn hp kk
  rw [if_neg (Int32.not_le.mpr c2)] at hsb
  refine w_iload mi_a66_153 rfl ?_
  refine w_sipushv (v := 1200) mi_a66_155 (by decide) ?_
  refine w_icmp_lt mi_a66_158 202 (by decide) (fun c3 => ?_) (fun c3 => ?_)
  rotate_left
  · rw [if_pos (Int32.not_lt.mp c3)] at hsb
    cases hpr : ac_at mi_par (b / 10) with
    | none => rw [hpr] at hsb; cases hsb
    | some pr =>
      rw [hpr] at hsb
      obtain ⟨s0, s1⟩ := ac_at_inv (show ac_at mi_ch (pr * 12 + o - 1200) = some b2 from hsb)
      obtain ⟨t0, t1⟩ := ac_at_inv hpr
      refine w_aload_n mi_a66_161 rfl ?_
      refine w_aload_n mi_a66_162 rfl ?_
      refine w_get mi_a66_163 rfl rfl rfl ?_
      refine w_aload_n mi_a66_166 rfl ?_
      refine w_get mi_a66_167 rfl rfl rfl ?_
      refine w_aload_n mi_a66_170 rfl ?_
      refine w_get mi_a66_171 rfl rfl rfl ?_
      refine w_iload mi_a66_174 rfl ?_
      refine w_iald mi_a66_176 rfl (nI_pos (by omega)) (by rw [hi]; exact hfb2) ?_
      refine w_bipushv (v := 10) mi_a66_177 (by decide) ?_
      refine w_idiv mi_a66_179 (by decide) ?_
      refine w_iald mi_a66_180 rfl t0 t1 ?_
      refine w_bipushv (v := 12) mi_a66_181 (by decide) ?_
      refine w_imul mi_a66_183 ?_
      refine w_iload mi_a66_184 rfl ?_
      refine w_iadd mi_a66_186 ?_
      refine w_sipushv (v := 1200) mi_a66_187 (by decide) ?_
      refine w_isub mi_a66_190 ?_
      refine w_iald mi_a66_191 rfl s0 s1 ?_
      exact md_tail (G := G + 1) mi_a66_192 mi_a66_193 mi_a66_196 mi_a66_199 (by decide) rfl (by omega) g1 g2 g3 hb hq hn hp kk
  rw [if_neg (Int32.not_le.mpr c3)] at hsb
  obtain ⟨s0, s1⟩ := ac_at_inv hsb
  refine w_iload mi_a66_202 rfl ?_
  refine w_sipushv (v := 1100) mi_a66_204 (by decide) ?_
  refine w_icmp_lt mi_a66_207 245 (by decide) (fun c4 => absurd ho (Int32.not_le.mpr c4)) (fun _ => ?_)
  refine w_aload_n mi_a66_210 rfl ?_
  refine w_aload_n mi_a66_211 rfl ?_
  refine w_get mi_a66_212 rfl rfl rfl ?_
  refine w_bipushv (v := 10) mi_a66_215 (by decide) ?_
  refine w_aload_n mi_a66_217 rfl ?_
  refine w_get mi_a66_218 rfl rfl rfl ?_
  refine w_iload_n mi_a66_221 rfl ?_
  refine w_iald mi_a66_222 rfl (nI_pos hdn) (by rw [hid]; exact hk) ?_
  refine w_iadd mi_a66_223 ?_
  refine w_bipushv (v := 12) mi_a66_224 (by decide) ?_
  refine w_imul mi_a66_226 ?_
  refine w_iload mi_a66_227 rfl ?_
  refine w_iadd mi_a66_229 ?_
  refine w_sipushv (v := 1100) mi_a66_230 (by decide) ?_
  refine w_isub mi_a66_233 ?_
  refine w_iald mi_a66_234 rfl s0 s1 ?_
  exact md_tail (G := G + 1) mi_a66_235 mi_a66_236 mi_a66_239 mi_a66_242 (by decide) rfl (by omega) g1 g2 g3 hb hq hn hp kk
theorem md_stp {G P : Nat} {o x v c v2 c2 : Int32} {fA FX jX st st2 pb jp : List Int32} (hG : G < 900) (hfx : (FX ++ jX)[G]? = some x) (hP : pb.length = P) (hdn : dn < 2 ^ 31) (hv : vO[dn]? = some v) (hc : cO[dn]? = some c) (ho : ¬ 1100 ≤ o) (hst : st.length ≤ 4) (hjp : P + st.length + jp.length = 300) (hPb : P ≤ 280) (h : ac_st o x st v c = some (st2, v2, c2))
  (kk : ∀ jp2 : List Int32, P + st2.length + jp2.length = 300 → st2.length ≤ 5 → mi_W (D + 2) mi_m66 (34, md_L dn a x0 (some (.int (nI G))) (some (.int o)), [], mh n m stt (nI (G + 1)) (nI (P + st2.length)) q kO (vO.set dn v2) (cO.set dn c2) tO fm to rw an zi fB fA (FX ++ jX) (pb ++ st2.reverse ++ jp2)) Q) :
  mi_W (D + 2) mi_m66 (74, md_L dn a x0 (some (.int (nI G))) (some (.int o)), [], mh n m stt (nI (G + 1)) (nI (P + st.length)) q kO vO cO tO fm to rw an zi fB fA (FX ++ jX) (pb ++ st.reverse ++ jp)) Q := by
  have hi : (nI G).toNatClampNeg = G := nI_clamp (by omega)
  have ho' : o < 1100 := Int32.not_le.mp ho
  refine w_iload mi_a66_74 rfl ?_
  refine w_sipushv (v := 3000) mi_a66_76 (by decide) ?_
  refine w_icmp_lt mi_a66_79 95 (by decide) (fun _ => ?_) (fun c => absurd (Int32.lt_trans ho' (by decide)) c)
  refine w_iload mi_a66_95 rfl ?_
  refine w_sipushv (v := 2000) mi_a66_97 (by decide) ?_
  refine w_icmp_lt mi_a66_100 120 (by decide) (fun _ => ?_) (fun c => absurd (Int32.lt_trans ho' (by decide)) c)
  refine w_iload mi_a66_120 rfl ?_
  refine w_sipushv (v := 1312) mi_a66_122 (by decide) ?_
  refine w_icmp_lt mi_a66_125 153 (by decide) (fun _ => ?_) (fun c => absurd (Int32.lt_trans ho' (by decide)) c)
  refine w_iload mi_a66_153 rfl ?_
  refine w_sipushv (v := 1200) mi_a66_155 (by decide) ?_
  refine w_icmp_lt mi_a66_158 202 (by decide) (fun _ => ?_) (fun c => absurd (Int32.lt_trans ho' (by decide)) c)
  refine w_iload mi_a66_202 rfl ?_
  refine w_sipushv (v := 1100) mi_a66_204 (by decide) ?_
  refine w_icmp_lt mi_a66_207 245 (by decide) (fun _ => ?_) (fun c => absurd ho' c)
  refine w_aload_n mi_a66_245 rfl ?_
  refine w_iload_n mi_a66_246 rfl ?_
  refine w_iload mi_a66_247 rfl ?_
  refine w_aload_n mi_a66_249 rfl ?_
  refine w_get mi_a66_250 rfl rfl rfl ?_
  refine w_iload mi_a66_253 rfl ?_
  refine w_iald mi_a66_255 rfl (nI_pos (by omega)) (by rw [hi]; exact hfx) ?_
  refine w_callV mi_a66_256 rfl rfl 3 ⟨rfl, rfl⟩ ⟨Nat.le_of_ble_eq_true rfl, Nat.le_of_ble_eq_true rfl⟩ rfl rfl rfl rfl (s_step hP hdn hv hc ho hst hjp hPb h) ?_
  rintro r' h' ⟨rfl, jp2, z1, z2, rfl⟩
  refine w_goto mi_a66_259 34 (by decide) ?_
  exact kk jp2 z1 z2
end MDA
def md_ok (f : Nat) : Prop := ∀ (D : Nat) (Q : Option Value → mi_H → Prop) (dn : Nat) (a x0 : Int32) (F P k : Nat) (b x v c r v2 c2 : Int32) (n m stt : Int32) (q : List Int32 × Nat) (kO vO cO tO fm to rw an zi FB FA FX pb jB jA jX jp : List Int32) (p : Int32) (l4 l5 : Option Value), k < 11 → ac_ev f (nI k) b x v c = some (r, v2, c2) → FB.length = F → FA.length = F → FX.length = F → pb.length = P → F + 1 + jB.length = 100 → F + 1 + jA.length = 100 → F + 1 + jX.length = 100 → P + jp.length = 300 → F + f ≤ 90 → P + 6 * f ≤ 280 → dn < 2 ^ 31 → kO[dn]? = some (nI k) → vO[dn]? = some v → cO[dn]? = some c → q.1.length = 64 → q.2 + (ac_tr f (nI k) b).length < 2 ^ 31 → ac_at mi_sta b = some p →
  (∀ (l4 l5 : Option Value) (jb ja jx : Int32) (jB jA jX jp : List Int32), F + 1 + jB.length = 100 → F + 1 + jA.length = 100 → F + 1 + jX.length = 100 → P + 1 + jp.length = 300 → mi_W (D + 2) mi_m66 (34, md_L dn a x0 l4 l5, [], mh n m stt (nI F) (nI (P + 1)) (ac_kp (ac_tr f (nI k) b) q) kO (vO.set dn v2) (cO.set dn c2) tO fm to rw an zi (FB ++ jb :: jB) (FA ++ ja :: jA) (FX ++ jx :: jX) (pb ++ r :: jp)) Q) →
  mi_W (D + 2) mi_m66 (34, md_L dn a x0 l4 l5, [], mh n m stt (nI (F + 1)) (nI P) (ac_kp [b] q) kO vO cO tO fm to rw an zi (FB ++ b :: jB) (FA ++ p :: jA) (FX ++ x :: jX) (pb ++ jp)) Q
theorem md_drop {pn : Nat} {o : Int32} {l : List Int32} (h : mi_cd.drop pn = o :: l) : mi_cd[pn]? = some o ∧ mi_cd.drop (pn + 1) = l := by
  constructor
  · have h0 : (mi_cd.drop pn)[0]? = some o := by rw [h]; rfl
    rw [List.getElem?_drop] at h0
    exact h0
  · have h1 : (mi_cd.drop pn).drop 1 = l := by rw [h]; rfl
    rw [List.drop_drop] at h1
    exact h1
theorem md_start {b x v c : Int32} {f k : Nat} {r : Int32 × Int32 × Int32} (h : ac_ev f (nI k) b x v c = some r) : ∃ ts p e rest, ac_tk b = some ts ∧ ac_at mi_sta b = some p ∧ p = nI p.toNatClampNeg ∧ mi_cd.drop p.toNatClampNeg = ts ++ e :: rest ∧ 3000 ≤ e ∧ (∀ t ∈ ts, t < 3000) ∧ ¬ b < 0 := by
  cases f with
  | zero => cases h
  | succ f =>
    cases ht : ac_tk b with
    | none => unfold ac_ev at h; rw [ht] at h; cases h
    | some ts =>
      obtain ⟨p, e, rest, h1, h2, h3, h4, h5, h6, -⟩ := ac_tk_where ht
      exact ⟨ts, p, e, rest, rfl, h1, (i3_nat h2).1, h3, h4, h5, h6⟩
theorem md_set_same {l : List Int32} {i : Nat} {x : Int32} (h : l[i]? = some x) : l.set i x = l := by
  obtain ⟨a, b⟩ := List.getElem?_eq_some_iff.mp h
  rw [← b]
  exact List.set_getElem_self a
theorem md_set_at {l : List Int32} {i : Nat} {x y : Int32} (h : l[i]? = some x) : (l.set i y)[i]? = some y := List.getElem?_set_self (List.getElem?_eq_some_iff.mp h).1
theorem md_ts {f : Nat} (H : md_ok f) {D : Nat} {Q : Option Value → mi_H → Prop} {dn : Nat} {a x0 : Int32} {F P k : Nat} {b x r v2 c2 n m stt : Int32} {kO tO fm to rw an zi FB FA FX pb : List Int32} {e : Int32} {rest : List Int32} (hk : k < 11) (g1 : FB.length = F) (g2 : FA.length = F) (g3 : FX.length = F) (hP : pb.length = P) (hF : F + 1 + f ≤ 90) (hPb : P + 6 * (f + 1) ≤ 280) (hdn : dn < 2 ^ 31) (hkO : kO[dn]? = some (nI k)) (hb0 : ¬ b < 0) (he : 3000 ≤ e) :
  ∀ (ts : List Int32) (pn : Nat) (st : List Int32) (v c : Int32) (q : List Int32 × Nat) (vO cO : List Int32) (l4 l5 : Option Value) (jB jA jX jp : List Int32), mi_cd.drop pn = ts ++ e :: rest → (∀ t ∈ ts, t < 3000) → ac_x (ac_ev f (nI k)) (nI k) b x ts st v c = some ([r], v2, c2) → F + 1 + jB.length = 100 → F + 1 + jA.length = 100 → F + 1 + jX.length = 100 → P + st.length + jp.length = 300 → st.length ≤ 5 → vO[dn]? = some v → cO[dn]? = some c → q.1.length = 64 → q.2 + (ac_trs (ac_tr f (nI k)) (nI k) b ts).length < 2 ^ 31 →
  (∀ (l4 l5 : Option Value) (jb ja jx : Int32) (jB jA jX jp : List Int32), F + 1 + jB.length = 100 → F + 1 + jA.length = 100 → F + 1 + jX.length = 100 → P + 1 + jp.length = 300 → mi_W (D + 2) mi_m66 (34, md_L dn a x0 l4 l5, [], mh n m stt (nI F) (nI (P + 1)) (ac_kp (ac_trs (ac_tr f (nI k)) (nI k) b ts) q) kO (vO.set dn v2) (cO.set dn c2) tO fm to rw an zi (FB ++ jb :: jB) (FA ++ ja :: jA) (FX ++ jx :: jX) (pb ++ r :: jp)) Q) →
  mi_W (D + 2) mi_m66 (34, md_L dn a x0 l4 l5, [], mh n m stt (nI (F + 1)) (nI (P + st.length)) q kO vO cO tO fm to rw an zi (FB ++ b :: jB) (FA ++ nI pn :: jA) (FX ++ x :: jX) (pb ++ st.reverse ++ jp)) Q := by
  have hfx : ∀ jX : List Int32, (FX ++ x :: jX)[F]? = some x := fun jX => by rw [← g3]; exact md_get _ _ _
  intro ts
  induction ts with
  | nil =>
    intro pn st v c q vO cO l4 l5 jB jA jX jp hd hts hx j1 j2 j3 j4 hst hv hc hq hn kk
    obtain ⟨d1, d2⟩ := md_drop hd
    have hr := ac_x_nil hx
    simp only [Prod.mk.injEq] at hr
    obtain ⟨q1, q2, q3⟩ := hr
    subst q1; subst q2; subst q3
    refine md_pre (by omega) g2 d1 ?_
    refine md_end he ?_
    have z := kk (some (.int (nI F))) (some (.int e)) b (nI (pn + 1)) x jB jA jX jp j1 j2 j3 j4
    rw [md_set_same hv, md_set_same hc] at z
    simpa [ac_trs, ac_kp] using z
  | cons o ts ih =>
    intro pn st v c q vO cO l4 l5 jB jA jX jp hd hts hx j1 j2 j3 j4 hst hv hc hq hn kk
    obtain ⟨d1, d2⟩ := md_drop (l := ts ++ e :: rest) hd
    obtain ⟨ho3, hts2⟩ := List.forall_mem_cons.mp hts
    refine md_pre (by omega) g2 d1 ?_
    by_cases ho : 1100 ≤ o
    · cases st with
      | nil =>
        unfold ac_x at hx
        rw [if_pos ho] at hx
        split at hx <;> first | (rename_i z1 z2; cases z2) | cases hx
      | cons y st =>
        obtain ⟨b2, z, v3, c3, hb2, hs2, hx2⟩ := ac_x_call ho hx
        rw [ac_trs_c ho hb2, List.length_append] at hn
        obtain ⟨ts2, p2, e2, rest2, -, hp2, -, -, -, -, -⟩ := md_start hs2
        obtain ⟨jb0, jB, rfl⟩ : ∃ u w, jB = u :: w := by cases jB with
          | nil => simp at j1; omega
          | cons u w => exact ⟨u, w, rfl⟩
        obtain ⟨ja0, jA, rfl⟩ : ∃ u w, jA = u :: w := by cases jA with
          | nil => simp at j2; omega
          | cons u w => exact ⟨u, w, rfl⟩
        obtain ⟨jx0, jX, rfl⟩ : ∃ u w, jX = u :: w := by cases jX with
          | nil => simp at j3; omega
          | cons u w => exact ⟨u, w, rfl⟩
        simp only [List.length_cons] at j1 j2 j3 j4 hst
        have htr1 : 1 ≤ (ac_tr f (nI k) b2).length := by
          cases f with
          | zero => cases hs2
          | succ f => rw [ac_tr, List.length_cons]; omega
        have e0 : P + (y :: st).length = (pb ++ st.reverse).length + 1 := by rw [List.length_append, List.length_reverse, hP, List.length_cons]; omega
        have e1 : pb ++ (y :: st).reverse ++ jp = (pb ++ st.reverse) ++ y :: jp := by simp
        have e3 : FB ++ b :: jb0 :: jB = (FB ++ [b]) ++ jb0 :: jB := by simp
        have e4 : FA ++ nI (pn + 1) :: ja0 :: jA = (FA ++ [nI (pn + 1)]) ++ ja0 :: jA := by simp
        have e5 : FX ++ x :: jx0 :: jX = (FX ++ [x]) ++ jx0 :: jX := by simp
        rw [e0, e1, e3, e4, e5]
        refine md_call (k := k) (b := b) (b2 := b2) (p2 := p2) (by omega) (by simp [g1]) (by simp [g2]) (by simp [g3]) (by rw [← g1]; simp) hb0 ho ho3 hb2 hp2 hq (by omega) (by rw [List.length_append, List.length_reverse, hP]; omega) hdn hkO ?_
        refine H D Q dn a x0 (F + 1) (pb ++ st.reverse).length k b2 y v c z v3 c3 n m stt q kO vO cO tO fm to rw an zi (FB ++ [b]) (FA ++ [nI (pn + 1)]) (FX ++ [x]) (pb ++ st.reverse) jB jA jX (y :: jp) p2 _ _ hk hs2 (by simp [g1]) (by simp [g2]) (by simp [g3]) rfl (by omega) (by omega) (by omega) (by rw [List.length_append, List.length_reverse, hP, List.length_cons]; omega) (by omega) (by rw [List.length_append, List.length_reverse, hP]; omega) hdn hkO hv hc hq (by omega) hp2 ?_
        intro l4 l5 jb ja jx jB jA jX jp k1 k2 k3 k4
        have e6 : (FB ++ [b]) ++ jb :: jB = FB ++ b :: jb :: jB := by simp
        have e7 : (FA ++ [nI (pn + 1)]) ++ ja :: jA = FA ++ nI (pn + 1) :: ja :: jA := by simp
        have e8 : (FX ++ [x]) ++ jx :: jX = FX ++ x :: jx :: jX := by simp
        have e9 : (pb ++ st.reverse) ++ z :: jp = pb ++ (z :: st).reverse ++ jp := by simp
        have e10 : (pb ++ st.reverse).length + 1 = P + (z :: st).length := by rw [List.length_append, List.length_reverse, hP, List.length_cons]; omega
        rw [e6, e7, e8, e9, e10]
        refine ih (pn + 1) (z :: st) v3 c3 (ac_kp (ac_tr f (nI k) b2) q) (vO.set dn v3) (cO.set dn c3) l4 l5 (jb :: jB) (ja :: jA) (jx :: jX) jp d2 hts2 hx2 (by rw [List.length_cons]; omega) (by rw [List.length_cons]; omega) (by rw [List.length_cons]; omega) (by rw [← e10]; omega) (by rw [List.length_cons]; omega) (md_set_at hv) (md_set_at hc) (by rw [ac_kp_len]; exact hq) (by rw [ac_kp_ran]; omega) ?_
        intro l4 l5 jb ja jx jB jA jX jp k1 k2 k3 k4
        rw [List.set_set, List.set_set, ← ac_kp_app, ← ac_trs_c ho hb2]
        exact kk l4 l5 jb ja jx jB jA jX jp k1 k2 k3 k4
    · rw [ac_trs_s ho] at hn kk
      have h4 : st.length ≤ 4 := by
        unfold ac_x at hx
        rw [if_neg ho] at hx
        split at hx
        · cases hx
        · omega
      cases hs : ac_st o x st v c with
      | none =>
        unfold ac_x at hx
        rw [if_neg ho, if_neg (by omega)] at hx
        simp only [hs] at hx
        cases hx
      | some qq =>
        obtain ⟨st2, v3, c3⟩ := qq
        have hx2 := ac_x_step ho hs hx
        dsimp only at hx2
        refine md_stp (FX := FX) (jX := x :: jX) (by omega) (hfx jX) hP hdn hv hc ho h4 j4 (by omega) hs ?_
        intro jp2 z1 z2
        refine ih (pn + 1) st2 v3 c3 q (vO.set dn v3) (cO.set dn c3) _ _ jB jA jX jp2 d2 hts2 hx2 j1 j2 j3 z1 z2 (md_set_at hv) (md_set_at hc) hq hn ?_
        intro l4 l5 jb ja jx jB jA jX jp k1 k2 k3 k4
        rw [List.set_set, List.set_set]
        exact kk l4 l5 jb ja jx jB jA jX jp k1 k2 k3 k4
theorem md_all : ∀ f, md_ok f := by
  intro f
  induction f with
  | zero => intro D Q dn a x0 F P k b x v c r v2 c2 n m stt q kO vO cO tO fm to rw an zi FB FA FX pb jB jA jX jp p l4 l5 hk he; cases he
  | succ f H =>
    intro D Q dn a x0 F P k b x v c r v2 c2 n m stt q kO vO cO tO fm to rw an zi FB FA FX pb jB jA jX jp p l4 l5 hk he g1 g2 g3 hP j1 j2 j3 j4 hF hPb hdn hkO hv hc hq hn hp kk
    obtain ⟨ts, p', e, rest, htk, hp', hpn, hd, he3, hts, hb0⟩ := md_start he
    have ep : p' = p := Option.some.inj (hp'.symm.trans hp)
    subst ep
    have hx := ac_ev_tk htk he
    have ht : ac_tr (f + 1) (nI k) b = b :: ac_trs (ac_tr f (nI k)) (nI k) b ts := by rw [ac_tr, htk]; rfl
    rw [ht] at hn kk
    rw [List.length_cons] at hn
    rw [hpn]
    have z := md_ts H (D := D) (Q := Q) (a := a) (x0 := x0) (n := n) (m := m) (stt := stt) (tO := tO) (fm := fm) (to := to) (rw := rw) (an := an) (zi := zi) hk g1 g2 g3 hP (by omega) hPb hdn hkO hb0 he3 ts p'.toNatClampNeg [] v c (ac_kp [b] q) vO cO l4 l5 jB jA jX jp hd hts hx j1 j2 j3 (by simpa using j4) (by simp) hv hc (by rw [ac_kp_len]; exact hq) (by rw [ac_kp_ran]; simp only [List.length_cons, List.length_nil]; omega) (by
      intro l4 l5 jb ja jx jB jA jX jp k1 k2 k3 k4
      have w := kk l4 l5 jb ja jx jB jA jX jp k1 k2 k3 k4
      rw [ac_kp_cons b (ac_trs (ac_tr f (nI k)) (nI k) b ts)] at w
      exact w)
    simpa using z
/-- act(d, a, x) of the model -/
theorem s_act {D dn k : Nat} {a x b v c r v2 c2 n m stt fr pl : Int32} {q : List Int32 × Nat} {kO vO cO tO fm to rw an zi fB fA fX pi : List Int32} (hk : k < 11) (hdn : dn < 2 ^ 31) (hkO : kO[dn]? = some (nI k)) (hv : vO[dn]? = some v) (hc : cO[dn]? = some c) (hB : fB.length = 100) (hA : fA.length = 100) (hX : fX.length = 100) (hpi : pi.length = 300) (hq : q.1.length = 64) (hn : q.2 + (ac_tr 8 (nI k) b).length < 2 ^ 31) (hb : ac_at mi_ch ((10 + nI k) * 12 + a) = some b) (he : ac_ev 8 (nI k) b x v c = some (r, v2, c2)) :
  mi_WC (D + 3) 66 [.ref 0, .int (nI dn), .int a, .int x] (mh n m stt fr pl q kO vO cO tO fm to rw an zi fB fA fX pi) (fun r' h' => r' = some (.int r) ∧ ∃ fB fA fX pi, fB.length = 100 ∧ fA.length = 100 ∧ fX.length = 100 ∧ pi.length = 300 ∧ h' = mh n m stt 0 0 (ac_kp (ac_tr 8 (nI k) b) q) kO (vO.set dn v2) (cO.set dn c2) tO fm to rw an zi fB fA fX pi) := by
  have hid : (nI dn).toNatClampNeg = dn := nI_clamp hdn
  obtain ⟨s0, s1⟩ := ac_at_inv hb
  obtain ⟨ts, p, e, rest, htk, hp, -⟩ := md_start he
  obtain ⟨jb, jB, rfl⟩ : ∃ u w, fB = u :: w := by cases fB with
    | nil => simp at hB
    | cons u w => exact ⟨u, w, rfl⟩
  obtain ⟨ja, jA, rfl⟩ : ∃ u w, fA = u :: w := by cases fA with
    | nil => simp at hA
    | cons u w => exact ⟨u, w, rfl⟩
  obtain ⟨jx, jX, rfl⟩ : ∃ u w, fX = u :: w := by cases fX with
    | nil => simp at hX
    | cons u w => exact ⟨u, w, rfl⟩
  simp only [List.length_cons] at hB hA hX
  have htr1 : 1 ≤ (ac_tr 8 (nI k) b).length := by rw [ac_tr, List.length_cons]; omega
  refine mi_WC.of (X := mi_m66) rfl (Nat.le_of_ble_eq_true rfl) ?_
  refine w_aload_n mi_a66_0 rfl ?_
  refine w_iconstv (v := 0) mi_a66_1 (by decide) ?_
  refine w_put mi_a66_2 rfl rfl (Nat.le_of_ble_eq_true rfl) rfl ?_
  refine w_aload_n mi_a66_5 rfl ?_
  refine w_iconstv (v := 0) mi_a66_6 (by decide) ?_
  refine w_put mi_a66_7 rfl rfl (Nat.le_of_ble_eq_true rfl) rfl ?_
  refine w_aload_n mi_a66_10 rfl ?_
  refine w_aload_n mi_a66_11 rfl ?_
  refine w_get mi_a66_12 rfl rfl rfl ?_
  refine w_bipushv (v := 10) mi_a66_15 (by decide) ?_
  refine w_aload_n mi_a66_17 rfl ?_
  refine w_get mi_a66_18 rfl rfl rfl ?_
  refine w_iload_n mi_a66_21 rfl ?_
  refine w_iald mi_a66_22 rfl (nI_pos hdn) (by rw [hid]; exact hkO) ?_
  refine w_iadd mi_a66_23 ?_
  refine w_bipushv (v := 12) mi_a66_24 (by decide) ?_
  refine w_imul mi_a66_26 ?_
  refine w_iload_n mi_a66_27 rfl ?_
  refine w_iadd mi_a66_28 ?_
  refine w_iald mi_a66_29 rfl s0 s1 ?_
  refine w_iload_n mi_a66_30 rfl ?_
  refine w_callV mi_a66_31 rfl rfl 2 ⟨rfl, rfl⟩ ⟨Nat.le_of_ble_eq_true rfl, Nat.le_of_ble_eq_true rfl⟩ rfl rfl rfl rfl (s_enter (d := D + 1) (F := 0) (fb := []) (fa := []) (fx := []) (by omega) rfl rfl rfl hp hq (by omega)) ?_
  rintro r' h' ⟨rfl, rfl⟩
  refine md_all 8 D _ dn a x 0 0 k b x v c r v2 c2 n m stt q kO vO cO tO fm to rw an zi [] [] [] [] jB jA jX pi p none none hk he rfl rfl rfl rfl (by omega) (by omega) (by omega) (by omega) (by omega) (by omega) hdn hkO hv hc hq hn hp ?_
  intro l4 l5 jb ja jx jB jA jX jp k1 k2 k3 k4
  refine w_aload_n mi_a66_34 rfl ?_
  refine w_get mi_a66_35 rfl rfl rfl ?_
  refine w_if_le mi_a66_38 262 (by decide) (fun _ => ?_) (fun c => absurd (show nI 0 ≤ 0 by decide) c)
  refine w_aload_n mi_a66_262 rfl ?_
  refine w_callV mi_a66_263 rfl rfl 0 ⟨rfl, rfl⟩ ⟨Nat.le_of_ble_eq_true rfl, Nat.le_of_ble_eq_true rfl⟩ rfl rfl rfl rfl (s_pop (d := D + 1) (pb := []) (by decide)) ?_
  rintro r' h' ⟨rfl, rfl⟩
  exact w_ireturn mi_a66_266 rfl ⟨rfl, jb :: jB, ja :: jA, jx :: jX, r :: jp, by rw [List.length_cons]; omega, by rw [List.length_cons]; omega, by rw [List.length_cons]; omega, by rw [List.length_cons]; omega, rfl⟩
