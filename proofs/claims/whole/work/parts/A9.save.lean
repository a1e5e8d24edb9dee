/-! saved states -/
section ZZ
variable {G : GG} {mi : MI} {d mc ms : Nat} {res : Option Value} {M' : Mem} {pc : Nat} {lc : List (Option Value)} {st rest : List Value} {k n : Nat} {E : Nat → va_E} {L : List Nat} {sz X idx d' : Nat} {S : Nat → Nat → Int32} {M1 : Mem} {y : MethodName} {mj : MI} {T : u_T} {N : Nat} {a1 v : Value}
theorem gX_now1 (hd : decode mi.2.1 pc = .ok (.getfield idx, 3)) (hk : FldOK mi.1 idx 9 6) (hX : XIn X L) (kk : WP G mi d mc ms res M' (pc + 3) lc (.int (S 1 9) :: st) (Xm G X S E L sz) k n) : WP G mi d mc ms res M' pc lc (.ref (X + 1) :: st) (Xm G X S E L sz) k n := vX (i := 1) (by decide) (g_World_now (B := X + 1) hd hk (hX.r (G := G) (i := 1) (by decide)) (vX0 (i := 1) (by decide) kk))
theorem rX_slots0 (hd : decode mi.2.1 pc = .ok (.aaload, 1)) (hG : GOK G) (hX : XIn X L) (kk : WP G mi d mc ms res M' (pc + 1) lc (.ref (X + 124) :: st) (Xm G X S E L sz) k n) : WP G mi d mc ms res M' pc lc (.int (nI 0) :: .ref (X + 121) :: st) (Xm G X S E L sz) k n := vX (i := 5) (by decide) (rg_aald (r := yR G X) (j := 0) (i' := 0) hd hG.2.2.2.2.2 rfl (hX.r (G := G) (i := 5) (by decide)) (by show 0 < 1; omega) rfl rfl (by decide) (by decide) rfl (vX0 (i := 5) (by decide) kk))
theorem gX_z0world (hd : decode mi.2.1 pc = .ok (.getfield idx, 3)) (hk : FldOK mi.1 idx 7 0) (hX : XIn X L) (kk : WP G mi d mc ms res M' (pc + 3) lc (.ref (X + 125) :: st) (Xm G X S E L sz) k n) : WP G mi d mc ms res M' pc lc (.ref (X + 124) :: st) (Xm G X S E L sz) k n := vX (i := 6) (by decide) (rg_getS (r := zR (X + 124)) (j := 0) hd hk rfl (hX.r (G := G) (i := 6) (by decide)) (by show 0 < 1; omega) rfl rfl (vX0 (i := 6) (by decide) kk))
theorem gX_z0journal (hd : decode mi.2.1 pc = .ok (.getfield idx, 3)) (hk : FldOK mi.1 idx 7 1) (hX : XIn X L) (kk : WP G mi d mc ms res M' (pc + 3) lc (.ref (X + 181) :: st) (Xm G X S E L sz) k n) : WP G mi d mc ms res M' pc lc (.ref (X + 124) :: st) (Xm G X S E L sz) k n := vX (i := 6) (by decide) (rg_getS (r := zR (X + 124)) (j := 0) hd hk rfl (hX.r (G := G) (i := 6) (by decide)) (by show 0 < 1; omega) rfl rfl (vX0 (i := 6) (by decide) kk))
theorem gX_z0used (hd : decode mi.2.1 pc = .ok (.getfield idx, 3)) (hk : FldOK mi.1 idx 7 2) (hX : XIn X L) (kk : WP G mi d mc ms res M' (pc + 3) lc (.int (S 6 2) :: st) (Xm G X S E L sz) k n) : WP G mi d mc ms res M' pc lc (.ref (X + 124) :: st) (Xm G X S E L sz) k n := vX (i := 6) (by decide) (rg_get (r := zR (X + 124)) (j := 0) hd hk rfl (hX.r (G := G) (i := 6) (by decide)) (by show 0 < 1; omega) rfl rfl rfl (vX0 (i := 6) (by decide) kk))
theorem pX_z0used (hd : decode mi.2.1 pc = .ok (.putfield idx, 3)) (hk : PutOK mi.1 idx 7 2 .boolean false) (hX : XIn X L) (kk : WP G mi d mc ms res M' (pc + 3) lc st (Xm G X (updS S 6 (upd (S 6) 2 1)) E L sz) k n) : WP G mi d mc ms res M' pc lc (.int 1 :: .ref (X + 124) :: st) (Xm G X S E L sz) k n := vX (i := 6) (by decide) (rg_put (r := zR (X + 124)) (j := 0) hd hk rfl (zR_ok (X + 124)) (hX.r (G := G) (i := 6) (by decide)) (by show 0 < 1; omega) rfl rfl rfl rfl rfl (vX1 (i := 6) (by decide) kk))
theorem xV0v_1 (hd : decode mi.2.1 pc = .ok (.invokevirtual idx, 3)) (hk : CallV mi.1 idx y mj 1) (hct : Ct G d' y mj [.ref (X + 125), a1] (Xm G X S E L sz) 0 0 none M1) (hX : XIn X L) (hcl : vwCl[9]? = some (y.cls, T, N)) (hdd : d' + 1 ≤ d) (hsum : (rest.map fun v => v.category).sum ≤ 8) (hmc : k ≤ mc) (hms : n ≤ ms) (kk : WP G mi d mc ms res M' (pc + 3) lc rest M1 k n) : WP G mi d mc ms res M' pc lc (a1 :: .ref (X + 125) :: rest) (Xm G X S E L sz) k n := xc (i := 7) (j := 0) (by decide) hd hk hct rfl hX (by decide) rfl hcl rfl hdd rfl hsum hmc hms kk
theorem xK0v_1 (hd : decode mi.2.1 pc = .ok (.invokevirtual idx, 3)) (hk : CallV mi.1 idx y mj 1) (hct : Ct G d' y mj [.ref (X + 181), a1] (Xm G X S E L sz) 0 0 none M1) (hX : XIn X L) (hcl : vwCl[1]? = some (y.cls, T, N)) (hdd : d' + 1 ≤ d) (hsum : (rest.map fun v => v.category).sum ≤ 8) (hmc : k ≤ mc) (hms : n ≤ ms) (kk : WP G mi d mc ms res M' (pc + 3) lc rest M1 k n) : WP G mi d mc ms res M' pc lc (a1 :: .ref (X + 181) :: rest) (Xm G X S E L sz) k n := xc (i := 8) (j := 0) (by decide) hd hk hct rfl hX (by decide) rfl hcl rfl hdd rfl hsum hmc hms kk
theorem rX_slots1 (hd : decode mi.2.1 pc = .ok (.aaload, 1)) (hG : GOK G) (hX : XIn X L) (kk : WP G mi d mc ms res M' (pc + 1) lc (.ref (X + 186) :: st) (Xm G X S E L sz) k n) : WP G mi d mc ms res M' pc lc (.int (nI 1) :: .ref (X + 121) :: st) (Xm G X S E L sz) k n := vX (i := 5) (by decide) (rg_aald (r := yR G X) (j := 0) (i' := 1) hd hG.2.2.2.2.2 rfl (hX.r (G := G) (i := 5) (by decide)) (by show 0 < 1; omega) rfl rfl (by decide) (by decide) rfl (vX0 (i := 5) (by decide) kk))
theorem gX_z1world (hd : decode mi.2.1 pc = .ok (.getfield idx, 3)) (hk : FldOK mi.1 idx 7 0) (hX : XIn X L) (kk : WP G mi d mc ms res M' (pc + 3) lc (.ref (X + 187) :: st) (Xm G X S E L sz) k n) : WP G mi d mc ms res M' pc lc (.ref (X + 186) :: st) (Xm G X S E L sz) k n := vX (i := 9) (by decide) (rg_getS (r := zR (X + 186)) (j := 0) hd hk rfl (hX.r (G := G) (i := 9) (by decide)) (by show 0 < 1; omega) rfl rfl (vX0 (i := 9) (by decide) kk))
theorem gX_z1journal (hd : decode mi.2.1 pc = .ok (.getfield idx, 3)) (hk : FldOK mi.1 idx 7 1) (hX : XIn X L) (kk : WP G mi d mc ms res M' (pc + 3) lc (.ref (X + 243) :: st) (Xm G X S E L sz) k n) : WP G mi d mc ms res M' pc lc (.ref (X + 186) :: st) (Xm G X S E L sz) k n := vX (i := 9) (by decide) (rg_getS (r := zR (X + 186)) (j := 0) hd hk rfl (hX.r (G := G) (i := 9) (by decide)) (by show 0 < 1; omega) rfl rfl (vX0 (i := 9) (by decide) kk))
theorem gX_z1used (hd : decode mi.2.1 pc = .ok (.getfield idx, 3)) (hk : FldOK mi.1 idx 7 2) (hX : XIn X L) (kk : WP G mi d mc ms res M' (pc + 3) lc (.int (S 9 2) :: st) (Xm G X S E L sz) k n) : WP G mi d mc ms res M' pc lc (.ref (X + 186) :: st) (Xm G X S E L sz) k n := vX (i := 9) (by decide) (rg_get (r := zR (X + 186)) (j := 0) hd hk rfl (hX.r (G := G) (i := 9) (by decide)) (by show 0 < 1; omega) rfl rfl rfl (vX0 (i := 9) (by decide) kk))
theorem pX_z1used (hd : decode mi.2.1 pc = .ok (.putfield idx, 3)) (hk : PutOK mi.1 idx 7 2 .boolean false) (hX : XIn X L) (kk : WP G mi d mc ms res M' (pc + 3) lc st (Xm G X (updS S 9 (upd (S 9) 2 1)) E L sz) k n) : WP G mi d mc ms res M' pc lc (.int 1 :: .ref (X + 186) :: st) (Xm G X S E L sz) k n := vX (i := 9) (by decide) (rg_put (r := zR (X + 186)) (j := 0) hd hk rfl (zR_ok (X + 186)) (hX.r (G := G) (i := 9) (by decide)) (by show 0 < 1; omega) rfl rfl rfl rfl rfl (vX1 (i := 9) (by decide) kk))
theorem xV1v_1 (hd : decode mi.2.1 pc = .ok (.invokevirtual idx, 3)) (hk : CallV mi.1 idx y mj 1) (hct : Ct G d' y mj [.ref (X + 187), a1] (Xm G X S E L sz) 0 0 none M1) (hX : XIn X L) (hcl : vwCl[9]? = some (y.cls, T, N)) (hdd : d' + 1 ≤ d) (hsum : (rest.map fun v => v.category).sum ≤ 8) (hmc : k ≤ mc) (hms : n ≤ ms) (kk : WP G mi d mc ms res M' (pc + 3) lc rest M1 k n) : WP G mi d mc ms res M' pc lc (a1 :: .ref (X + 187) :: rest) (Xm G X S E L sz) k n := xc (i := 10) (j := 0) (by decide) hd hk hct rfl hX (by decide) rfl hcl rfl hdd rfl hsum hmc hms kk
theorem xK1v_1 (hd : decode mi.2.1 pc = .ok (.invokevirtual idx, 3)) (hk : CallV mi.1 idx y mj 1) (hct : Ct G d' y mj [.ref (X + 243), a1] (Xm G X S E L sz) 0 0 none M1) (hX : XIn X L) (hcl : vwCl[1]? = some (y.cls, T, N)) (hdd : d' + 1 ≤ d) (hsum : (rest.map fun v => v.category).sum ≤ 8) (hmc : k ≤ mc) (hms : n ≤ ms) (kk : WP G mi d mc ms res M' (pc + 3) lc rest M1 k n) : WP G mi d mc ms res M' pc lc (a1 :: .ref (X + 243) :: rest) (Xm G X S E L sz) k n := xc (i := 11) (j := 0) (by decide) hd hk hct rfl hX (by decide) rfl hcl rfl hdd rfl hsum hmc hms kk
end ZZ
/-- the world's bits -/
def BLs (C : Nat → Int32) : Prop := ∀ q, (16 ≤ q ∧ q < 22) ∨ (86 ≤ q ∧ q < 94) ∨ (228 ≤ q ∧ q < 231) → bl (C q)
theorem BLs.of {C F : Nat → Int32} {n r : Nat} (h : Rel C F) (hi : INV F n r) : BLs C := by
  intro q hq
  rw [h.e (q := q) (by omega)]
  rcases hq with hq | hq | hq
  · have := (hi.2.2.2.1 (q - 16) (by omega)).1
    rwa [show 16 + (q - 16) = q by omega] at this
  · have := (hi.2.2.2.2 (q - 86) (by omega)).2.2.2.2.2.2.1
    rwa [show 86 + (q - 86) = q by omega] at this
  · have := hi.2.2.1.2.2.2.2 (q - 228) (by omega)
    rwa [show 228 + (q - 228) = q by omega] at this
theorem xz_w0 {G : GG} {X : Nat} {S : Nat → Nat → Int32} {E : Nat → va_E} {L : List Nat} {sz d : Nat}  (hG : GOK G) (hX : XIn X L) (hb : BLs (S 1)) (hdp : 4 ≤ d) : Ct G d yX10_copyFrom iX10_copyFrom [.ref (X + 125), .ref (X + 1)] (Xm G X S E L sz) 0 0 none (Xm G X (updS S 7 (S 1)) E L sz) := Ct.xm (i := 7) (by decide) (cc_world (B := X + 125) (B2 := X + 1) (C2 := S 1) hG (hX.r (G := G) (i := 7) (by decide)) (hX.r (G := G) (i := 1) (by decide)) (xr_dj G X 7 1 (by decide) (by decide) (by decide)) (Xm_at (i := 1) (by decide)) hb hdp)
theorem xz_j0 {G : GG} {X : Nat} {S : Nat → Nat → Int32} {E : Nat → va_E} {L : List Nat} {sz d : Nat}  (hG : GOK G) (hX : XIn X L)  (hdp : 1 ≤ d) : Ct G d yX0_copyFrom iX0_copyFrom [.ref (X + 181), .ref (X + 113)] (Xm G X S E L sz) 0 0 none (Xm G X (updS S 8 (S 3)) E L sz) := Ct.xm (i := 8) (by decide) (cj_copy (J := X + 181) (J2 := X + 113) (F2 := S 3) hG (hX.r (G := G) (i := 8) (by decide)) (hX.r (G := G) (i := 3) (by decide)) (xr_dj G X 8 3 (by decide) (by decide) (by decide)) (Xm_at (i := 3) (by decide)) hdp)
theorem xz_v0 {G : GG} {X : Nat} {S : Nat → Nat → Int32} {E : Nat → va_E} {L : List Nat} {sz d : Nat}  (hG : GOK G) (hX : XIn X L) (hb : BLs (S 7)) (hdp : 4 ≤ d) : Ct G d yX10_copyFrom iX10_copyFrom [.ref (X + 1), .ref (X + 125)] (Xm G X S E L sz) 0 0 none (Xm G X (updS S 1 (S 7)) E L sz) := Ct.xm (i := 1) (by decide) (cc_world (B := X + 1) (B2 := X + 125) (C2 := S 7) hG (hX.r (G := G) (i := 1) (by decide)) (hX.r (G := G) (i := 7) (by decide)) (xr_dj G X 1 7 (by decide) (by decide) (by decide)) (Xm_at (i := 7) (by decide)) hb hdp)
theorem xz_k0 {G : GG} {X : Nat} {S : Nat → Nat → Int32} {E : Nat → va_E} {L : List Nat} {sz d : Nat}  (hG : GOK G) (hX : XIn X L)  (hdp : 1 ≤ d) : Ct G d yX0_copyFrom iX0_copyFrom [.ref (X + 113), .ref (X + 181)] (Xm G X S E L sz) 0 0 none (Xm G X (updS S 3 (S 8)) E L sz) := Ct.xm (i := 3) (by decide) (cj_copy (J := X + 113) (J2 := X + 181) (F2 := S 8) hG (hX.r (G := G) (i := 3) (by decide)) (hX.r (G := G) (i := 8) (by decide)) (xr_dj G X 3 8 (by decide) (by decide) (by decide)) (Xm_at (i := 8) (by decide)) hdp)
theorem xz_w1 {G : GG} {X : Nat} {S : Nat → Nat → Int32} {E : Nat → va_E} {L : List Nat} {sz d : Nat}  (hG : GOK G) (hX : XIn X L) (hb : BLs (S 1)) (hdp : 4 ≤ d) : Ct G d yX10_copyFrom iX10_copyFrom [.ref (X + 187), .ref (X + 1)] (Xm G X S E L sz) 0 0 none (Xm G X (updS S 10 (S 1)) E L sz) := Ct.xm (i := 10) (by decide) (cc_world (B := X + 187) (B2 := X + 1) (C2 := S 1) hG (hX.r (G := G) (i := 10) (by decide)) (hX.r (G := G) (i := 1) (by decide)) (xr_dj G X 10 1 (by decide) (by decide) (by decide)) (Xm_at (i := 1) (by decide)) hb hdp)
theorem xz_j1 {G : GG} {X : Nat} {S : Nat → Nat → Int32} {E : Nat → va_E} {L : List Nat} {sz d : Nat}  (hG : GOK G) (hX : XIn X L)  (hdp : 1 ≤ d) : Ct G d yX0_copyFrom iX0_copyFrom [.ref (X + 243), .ref (X + 113)] (Xm G X S E L sz) 0 0 none (Xm G X (updS S 11 (S 3)) E L sz) := Ct.xm (i := 11) (by decide) (cj_copy (J := X + 243) (J2 := X + 113) (F2 := S 3) hG (hX.r (G := G) (i := 11) (by decide)) (hX.r (G := G) (i := 3) (by decide)) (xr_dj G X 11 3 (by decide) (by decide) (by decide)) (Xm_at (i := 3) (by decide)) hdp)
theorem xz_v1 {G : GG} {X : Nat} {S : Nat → Nat → Int32} {E : Nat → va_E} {L : List Nat} {sz d : Nat}  (hG : GOK G) (hX : XIn X L) (hb : BLs (S 10)) (hdp : 4 ≤ d) : Ct G d yX10_copyFrom iX10_copyFrom [.ref (X + 1), .ref (X + 187)] (Xm G X S E L sz) 0 0 none (Xm G X (updS S 1 (S 10)) E L sz) := Ct.xm (i := 1) (by decide) (cc_world (B := X + 1) (B2 := X + 187) (C2 := S 10) hG (hX.r (G := G) (i := 1) (by decide)) (hX.r (G := G) (i := 10) (by decide)) (xr_dj G X 1 10 (by decide) (by decide) (by decide)) (Xm_at (i := 10) (by decide)) hb hdp)
theorem xz_k1 {G : GG} {X : Nat} {S : Nat → Nat → Int32} {E : Nat → va_E} {L : List Nat} {sz d : Nat}  (hG : GOK G) (hX : XIn X L)  (hdp : 1 ≤ d) : Ct G d yX0_copyFrom iX0_copyFrom [.ref (X + 113), .ref (X + 243)] (Xm G X S E L sz) 0 0 none (Xm G X (updS S 3 (S 11)) E L sz) := Ct.xm (i := 3) (by decide) (cj_copy (J := X + 113) (J2 := X + 243) (F2 := S 11) hG (hX.r (G := G) (i := 3) (by decide)) (hX.r (G := G) (i := 11) (by decide)) (xr_dj G X 3 11 (by decide) (by decide) (by decide)) (Xm_at (i := 11) (by decide)) hdp)
def svS0 (S : Nat → Nat → Int32) : Nat → Nat → Int32 := updS (updS (updS S 7 (S 1)) 8 (S 3)) 6 (upd (S 6) 2 1)
set_option maxHeartbeats 1000000 in
theorem cX_save0 {G : GG} {X : Nat} {S : Nat → Nat → Int32} {E : Nat → va_E} {L : List Nat} {sz d : Nat} (hG : GOK G) (hX : XIn X L) (hb : BLs (S 1)) (hdp : 5 ≤ d) : Ct G d yX11_save iX11_save [.ref X, .int (nI 0)] (Xm G X S E L sz) 0 0 (some (.int (S 1 9))) (Xm G X (svS0 S) E L sz) := by
  refine Ct.of 1 (by decide) rfl (by decide) (Nat.le_of_ble_eq_true rfl) ?_
  show WP _ _ _ _ _ _ _ 0 [some (.ref X), some (.int (nI 0)), none] [] _ 0 0
  refine wp_ild1 dX11_save_0 ?_
  refine wp_if_lt (tgt := 9) dX11_save_1 (by decide) (fun c_1 => absurd c_1 (by decide)) (fun _ => ?_)
  refine wp_ild1 dX11_save_4 ?_
  refine wp_iconst (v := 2) dX11_save_5 (by decide) ?_
  refine wp_icmp_lt (tgt := 12) dX11_save_6 (by decide) (fun _ => ?_) (fun c_6 => absurd (by decide) c_6)
  refine wp_ald0 dX11_save_12 ?_
  refine gX_slots dX11_save_13 fX11_35 hX ?_
  refine wp_ild1 dX11_save_16 ?_
  refine rX_slots0 dX11_save_17 hG hX ?_
  refine wp_ast2 dX11_save_18 (by decide) rfl ?_
  refine wp_ald2 dX11_save_19 ?_
  refine gX_z0world dX11_save_20 fX11_254 hX ?_
  refine wp_ald0 dX11_save_23 ?_
  refine gX_world dX11_save_24 fX11_10 hX ?_
  refine xV0v_1 dX11_save_27 kX11_255 (xz_w0 (d := d - 1) hG hX hb (by omega)) hX rfl (by omega) (Nat.le_of_ble_eq_true rfl) (Nat.le_refl _) (Nat.le_refl _) ?_
  refine wp_ald2 dX11_save_30 ?_
  refine gX_z0journal dX11_save_31 fX11_258 hX ?_
  refine wp_ald0 dX11_save_34 ?_
  refine gX_journal dX11_save_35 fX11_22 hX ?_
  refine xK0v_1 dX11_save_38 kX11_259 (xz_j0 (d := d - 1) hG hX (by omega)) hX rfl (by omega) (Nat.le_of_ble_eq_true rfl) (Nat.le_refl _) (Nat.le_refl _) ?_
  refine wp_ald2 dX11_save_41 ?_
  refine wp_iconst (v := 1) dX11_save_42 (by decide) ?_
  refine pX_z0used dX11_save_43 pX11_262 hX ?_
  refine wp_ald0 dX11_save_46 ?_
  refine gX_world dX11_save_47 fX11_10 hX ?_
  refine gX_now1 dX11_save_50 fX11_195 hX ?_
  exact wp_iret dX11_save_53 rfl (Nat.le_refl _) (Nat.le_refl _) (by rfl) (by rfl)
def rtS0 (S : Nat → Nat → Int32) : Nat → Nat → Int32 := updS (updS S 1 (S 7)) 3 (S 8)
set_option maxHeartbeats 1000000 in
theorem cX_restN0 {G : GG} {X : Nat} {S : Nat → Nat → Int32} {E : Nat → va_E} {L : List Nat} {sz d : Nat} (hG : GOK G) (hX : XIn X L) (hu : S 6 2 = 0) : Ct G d yX11_restore iX11_restore [.ref X, .int (nI 0)] (Xm G X S E L sz) 0 0 (some (.int (-7))) (Xm G X S E L sz) := by
  refine Ct.of 1 (by decide) rfl (by decide) (Nat.le_of_ble_eq_true rfl) ?_
  show WP _ _ _ _ _ _ _ 0 [some (.ref X), some (.int (nI 0)), none] [] _ 0 0
  refine wp_ild1 dX11_restore_0 ?_
  refine wp_if_lt (tgt := 9) dX11_restore_1 (by decide) (fun c_1 => absurd c_1 (by decide)) (fun _ => ?_)
  refine wp_ild1 dX11_restore_4 ?_
  refine wp_iconst (v := 2) dX11_restore_5 (by decide) ?_
  refine wp_icmp_lt (tgt := 12) dX11_restore_6 (by decide) (fun _ => ?_) (fun c_6 => absurd (by decide) c_6)
  refine wp_ald0 dX11_restore_12 ?_
  refine gX_slots dX11_restore_13 fX11_35 hX ?_
  refine wp_ild1 dX11_restore_16 ?_
  refine rX_slots0 dX11_restore_17 hG hX ?_
  refine wp_ast2 dX11_restore_18 (by decide) rfl ?_
  refine wp_ald2 dX11_restore_19 ?_
  refine gX_z0used dX11_restore_20 fX11_262 hX ?_
  refine wp_if_ne (tgt := 29) dX11_restore_23 (by decide) (fun c_23 => absurd hu c_23) (fun _ => ?_)
  refine wp_bipush (v := (-7)) dX11_restore_26 (by decide) ?_
  exact wp_iret dX11_restore_28 rfl (Nat.le_refl _) (Nat.le_refl _) (by rfl) (by rfl)
set_option maxHeartbeats 1000000 in
theorem cX_rest0 {G : GG} {X : Nat} {S : Nat → Nat → Int32} {E : Nat → va_E} {L : List Nat} {sz d : Nat} (hG : GOK G) (hX : XIn X L) (hu : ¬ S 6 2 = 0) (hb : BLs (S 7)) (hdp : 5 ≤ d) : Ct G d yX11_restore iX11_restore [.ref X, .int (nI 0)] (Xm G X S E L sz) 0 0 (some (.int (S 7 9))) (Xm G X (rtS0 S) E L sz) := by
  refine Ct.of 1 (by decide) rfl (by decide) (Nat.le_of_ble_eq_true rfl) ?_
  show WP _ _ _ _ _ _ _ 0 [some (.ref X), some (.int (nI 0)), none] [] _ 0 0
  refine wp_ild1 dX11_restore_0 ?_
  refine wp_if_lt (tgt := 9) dX11_restore_1 (by decide) (fun c_1 => absurd c_1 (by decide)) (fun _ => ?_)
  refine wp_ild1 dX11_restore_4 ?_
  refine wp_iconst (v := 2) dX11_restore_5 (by decide) ?_
  refine wp_icmp_lt (tgt := 12) dX11_restore_6 (by decide) (fun _ => ?_) (fun c_6 => absurd (by decide) c_6)
  refine wp_ald0 dX11_restore_12 ?_
  refine gX_slots dX11_restore_13 fX11_35 hX ?_
  refine wp_ild1 dX11_restore_16 ?_
  refine rX_slots0 dX11_restore_17 hG hX ?_
  refine wp_ast2 dX11_restore_18 (by decide) rfl ?_
  refine wp_ald2 dX11_restore_19 ?_
  refine gX_z0used dX11_restore_20 fX11_262 hX ?_
  refine wp_if_ne (tgt := 29) dX11_restore_23 (by decide) (fun _ => ?_) (fun c_23 => absurd c_23 hu)
  refine wp_ald0 dX11_restore_29 ?_
  refine gX_world dX11_restore_30 fX11_10 hX ?_
  refine wp_ald2 dX11_restore_33 ?_
  refine gX_z0world dX11_restore_34 fX11_254 hX ?_
  refine xW1v_1 dX11_restore_37 kX11_255 (xz_v0 (d := d - 1) hG hX hb (by omega)) hX rfl (by omega) (Nat.le_of_ble_eq_true rfl) (Nat.le_refl _) (Nat.le_refl _) ?_
  refine wp_ald0 dX11_restore_40 ?_
  refine gX_journal dX11_restore_41 fX11_22 hX ?_
  refine wp_ald2 dX11_restore_44 ?_
  refine gX_z0journal dX11_restore_45 fX11_258 hX ?_
  refine xJv_1 dX11_restore_48 kX11_259 (xz_k0 (d := d - 1) hG hX (by omega)) hX rfl (by omega) (Nat.le_of_ble_eq_true rfl) (Nat.le_refl _) (Nat.le_refl _) ?_
  refine wp_ald0 dX11_restore_51 ?_
  refine gX_world dX11_restore_52 fX11_10 hX ?_
  refine gX_now1 dX11_restore_55 fX11_195 hX ?_
  exact wp_iret dX11_restore_58 rfl (Nat.le_refl _) (Nat.le_refl _) (by rfl) (by rfl)
def svS1 (S : Nat → Nat → Int32) : Nat → Nat → Int32 := updS (updS (updS S 10 (S 1)) 11 (S 3)) 9 (upd (S 9) 2 1)
set_option maxHeartbeats 1000000 in
theorem cX_save1 {G : GG} {X : Nat} {S : Nat → Nat → Int32} {E : Nat → va_E} {L : List Nat} {sz d : Nat} (hG : GOK G) (hX : XIn X L) (hb : BLs (S 1)) (hdp : 5 ≤ d) : Ct G d yX11_save iX11_save [.ref X, .int (nI 1)] (Xm G X S E L sz) 0 0 (some (.int (S 1 9))) (Xm G X (svS1 S) E L sz) := by
  refine Ct.of 1 (by decide) rfl (by decide) (Nat.le_of_ble_eq_true rfl) ?_
  show WP _ _ _ _ _ _ _ 0 [some (.ref X), some (.int (nI 1)), none] [] _ 0 0
  refine wp_ild1 dX11_save_0 ?_
  refine wp_if_lt (tgt := 9) dX11_save_1 (by decide) (fun c_1 => absurd c_1 (by decide)) (fun _ => ?_)
  refine wp_ild1 dX11_save_4 ?_
  refine wp_iconst (v := 2) dX11_save_5 (by decide) ?_
  refine wp_icmp_lt (tgt := 12) dX11_save_6 (by decide) (fun _ => ?_) (fun c_6 => absurd (by decide) c_6)
  refine wp_ald0 dX11_save_12 ?_
  refine gX_slots dX11_save_13 fX11_35 hX ?_
  refine wp_ild1 dX11_save_16 ?_
  refine rX_slots1 dX11_save_17 hG hX ?_
  refine wp_ast2 dX11_save_18 (by decide) rfl ?_
  refine wp_ald2 dX11_save_19 ?_
  refine gX_z1world dX11_save_20 fX11_254 hX ?_
  refine wp_ald0 dX11_save_23 ?_
  refine gX_world dX11_save_24 fX11_10 hX ?_
  refine xV1v_1 dX11_save_27 kX11_255 (xz_w1 (d := d - 1) hG hX hb (by omega)) hX rfl (by omega) (Nat.le_of_ble_eq_true rfl) (Nat.le_refl _) (Nat.le_refl _) ?_
  refine wp_ald2 dX11_save_30 ?_
  refine gX_z1journal dX11_save_31 fX11_258 hX ?_
  refine wp_ald0 dX11_save_34 ?_
  refine gX_journal dX11_save_35 fX11_22 hX ?_
  refine xK1v_1 dX11_save_38 kX11_259 (xz_j1 (d := d - 1) hG hX (by omega)) hX rfl (by omega) (Nat.le_of_ble_eq_true rfl) (Nat.le_refl _) (Nat.le_refl _) ?_
  refine wp_ald2 dX11_save_41 ?_
  refine wp_iconst (v := 1) dX11_save_42 (by decide) ?_
  refine pX_z1used dX11_save_43 pX11_262 hX ?_
  refine wp_ald0 dX11_save_46 ?_
  refine gX_world dX11_save_47 fX11_10 hX ?_
  refine gX_now1 dX11_save_50 fX11_195 hX ?_
  exact wp_iret dX11_save_53 rfl (Nat.le_refl _) (Nat.le_refl _) (by rfl) (by rfl)
def rtS1 (S : Nat → Nat → Int32) : Nat → Nat → Int32 := updS (updS S 1 (S 10)) 3 (S 11)
set_option maxHeartbeats 1000000 in
theorem cX_restN1 {G : GG} {X : Nat} {S : Nat → Nat → Int32} {E : Nat → va_E} {L : List Nat} {sz d : Nat} (hG : GOK G) (hX : XIn X L) (hu : S 9 2 = 0) : Ct G d yX11_restore iX11_restore [.ref X, .int (nI 1)] (Xm G X S E L sz) 0 0 (some (.int (-7))) (Xm G X S E L sz) := by
  refine Ct.of 1 (by decide) rfl (by decide) (Nat.le_of_ble_eq_true rfl) ?_
  show WP _ _ _ _ _ _ _ 0 [some (.ref X), some (.int (nI 1)), none] [] _ 0 0
  refine wp_ild1 dX11_restore_0 ?_
  refine wp_if_lt (tgt := 9) dX11_restore_1 (by decide) (fun c_1 => absurd c_1 (by decide)) (fun _ => ?_)
  refine wp_ild1 dX11_restore_4 ?_
  refine wp_iconst (v := 2) dX11_restore_5 (by decide) ?_
  refine wp_icmp_lt (tgt := 12) dX11_restore_6 (by decide) (fun _ => ?_) (fun c_6 => absurd (by decide) c_6)
  refine wp_ald0 dX11_restore_12 ?_
  refine gX_slots dX11_restore_13 fX11_35 hX ?_
  refine wp_ild1 dX11_restore_16 ?_
  refine rX_slots1 dX11_restore_17 hG hX ?_
  refine wp_ast2 dX11_restore_18 (by decide) rfl ?_
  refine wp_ald2 dX11_restore_19 ?_
  refine gX_z1used dX11_restore_20 fX11_262 hX ?_
  refine wp_if_ne (tgt := 29) dX11_restore_23 (by decide) (fun c_23 => absurd hu c_23) (fun _ => ?_)
  refine wp_bipush (v := (-7)) dX11_restore_26 (by decide) ?_
  exact wp_iret dX11_restore_28 rfl (Nat.le_refl _) (Nat.le_refl _) (by rfl) (by rfl)
set_option maxHeartbeats 1000000 in
theorem cX_rest1 {G : GG} {X : Nat} {S : Nat → Nat → Int32} {E : Nat → va_E} {L : List Nat} {sz d : Nat} (hG : GOK G) (hX : XIn X L) (hu : ¬ S 9 2 = 0) (hb : BLs (S 10)) (hdp : 5 ≤ d) : Ct G d yX11_restore iX11_restore [.ref X, .int (nI 1)] (Xm G X S E L sz) 0 0 (some (.int (S 10 9))) (Xm G X (rtS1 S) E L sz) := by
  refine Ct.of 1 (by decide) rfl (by decide) (Nat.le_of_ble_eq_true rfl) ?_
  show WP _ _ _ _ _ _ _ 0 [some (.ref X), some (.int (nI 1)), none] [] _ 0 0
  refine wp_ild1 dX11_restore_0 ?_
  refine wp_if_lt (tgt := 9) dX11_restore_1 (by decide) (fun c_1 => absurd c_1 (by decide)) (fun _ => ?_)
  refine wp_ild1 dX11_restore_4 ?_
  refine wp_iconst (v := 2) dX11_restore_5 (by decide) ?_
  refine wp_icmp_lt (tgt := 12) dX11_restore_6 (by decide) (fun _ => ?_) (fun c_6 => absurd (by decide) c_6)
  refine wp_ald0 dX11_restore_12 ?_
  refine gX_slots dX11_restore_13 fX11_35 hX ?_
  refine wp_ild1 dX11_restore_16 ?_
  refine rX_slots1 dX11_restore_17 hG hX ?_
  refine wp_ast2 dX11_restore_18 (by decide) rfl ?_
  refine wp_ald2 dX11_restore_19 ?_
  refine gX_z1used dX11_restore_20 fX11_262 hX ?_
  refine wp_if_ne (tgt := 29) dX11_restore_23 (by decide) (fun _ => ?_) (fun c_23 => absurd c_23 hu)
  refine wp_ald0 dX11_restore_29 ?_
  refine gX_world dX11_restore_30 fX11_10 hX ?_
  refine wp_ald2 dX11_restore_33 ?_
  refine gX_z1world dX11_restore_34 fX11_254 hX ?_
  refine xW1v_1 dX11_restore_37 kX11_255 (xz_v1 (d := d - 1) hG hX hb (by omega)) hX rfl (by omega) (Nat.le_of_ble_eq_true rfl) (Nat.le_refl _) (Nat.le_refl _) ?_
  refine wp_ald0 dX11_restore_40 ?_
  refine gX_journal dX11_restore_41 fX11_22 hX ?_
  refine wp_ald2 dX11_restore_44 ?_
  refine gX_z1journal dX11_restore_45 fX11_258 hX ?_
  refine xJv_1 dX11_restore_48 kX11_259 (xz_k1 (d := d - 1) hG hX (by omega)) hX rfl (by omega) (Nat.le_of_ble_eq_true rfl) (Nat.le_refl _) (Nat.le_refl _) ?_
  refine wp_ald0 dX11_restore_51 ?_
  refine gX_world dX11_restore_52 fX11_10 hX ?_
  refine gX_now1 dX11_restore_55 fX11_195 hX ?_
  exact wp_iret dX11_restore_58 rfl (Nat.le_refl _) (Nat.le_refl _) (by rfl) (by rfl)
set_option maxHeartbeats 1000000 in
theorem cX_saveX {G : GG} {X : Nat} {S : Nat → Nat → Int32} {E : Nat → va_E} {L : List Nat} {sz d : Nat} {x : Int32} (hG : GOK G) (hX : XIn X L) (hx : ¬ (¬ x < 0 ∧ x < 2)) : Ct G d yX11_save iX11_save [.ref X, .int x] (Xm G X S E L sz) 0 0 (some (.int (-3))) (Xm G X S E L sz) := by
  refine Ct.of 1 (by decide) rfl (by decide) (Nat.le_of_ble_eq_true rfl) ?_
  show WP _ _ _ _ _ _ _ 0 [some (.ref X), some (.int (x)), none] [] _ 0 0
  refine wp_ild1 dX11_save_0 ?_
  refine wp_if_lt (tgt := 9) dX11_save_1 (by decide) (fun c_1 => ?_) (fun c_1 => ?_)
  · refine wp_bipush (v := (-3)) dX11_save_9 (by decide) ?_
    exact wp_iret dX11_save_11 rfl (Nat.le_refl _) (Nat.le_refl _) (by rfl) (by rfl)
  · refine wp_ild1 dX11_save_4 ?_
    refine wp_iconst (v := 2) dX11_save_5 (by decide) ?_
    refine wp_icmp_lt (tgt := 12) dX11_save_6 (by decide) (fun c_6 => absurd ⟨c_1, c_6⟩ hx) (fun c_6 => ?_)
    refine wp_bipush (v := (-3)) dX11_save_9 (by decide) ?_
    exact wp_iret dX11_save_11 rfl (Nat.le_refl _) (Nat.le_refl _) (by rfl) (by rfl)
set_option maxHeartbeats 1000000 in
theorem cX_restoreX {G : GG} {X : Nat} {S : Nat → Nat → Int32} {E : Nat → va_E} {L : List Nat} {sz d : Nat} {x : Int32} (hG : GOK G) (hX : XIn X L) (hx : ¬ (¬ x < 0 ∧ x < 2)) : Ct G d yX11_restore iX11_restore [.ref X, .int x] (Xm G X S E L sz) 0 0 (some (.int (-3))) (Xm G X S E L sz) := by
  refine Ct.of 1 (by decide) rfl (by decide) (Nat.le_of_ble_eq_true rfl) ?_
  show WP _ _ _ _ _ _ _ 0 [some (.ref X), some (.int (x)), none] [] _ 0 0
  refine wp_ild1 dX11_restore_0 ?_
  refine wp_if_lt (tgt := 9) dX11_restore_1 (by decide) (fun c_1 => ?_) (fun c_1 => ?_)
  · refine wp_bipush (v := (-3)) dX11_restore_9 (by decide) ?_
    exact wp_iret dX11_restore_11 rfl (Nat.le_refl _) (Nat.le_refl _) (by rfl) (by rfl)
  · refine wp_ild1 dX11_restore_4 ?_
    refine wp_iconst (v := 2) dX11_restore_5 (by decide) ?_
    refine wp_icmp_lt (tgt := 12) dX11_restore_6 (by decide) (fun c_6 => absurd ⟨c_1, c_6⟩ hx) (fun c_6 => ?_)
    refine wp_bipush (v := (-3)) dX11_restore_9 (by decide) ?_
    exact wp_iret dX11_restore_11 rfl (Nat.le_refl _) (Nat.le_refl _) (by rfl) (by rfl)
