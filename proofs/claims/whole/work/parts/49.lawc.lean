/-! contracts as the law meets them -/
theorem Ct_ex {S : Type} {l : Launch} {y : MethodName} {ws : List Cond} {k : Nat} {A : Nat → Prop} {av : List Value} {P : S → State → Heap → Prop} {Q : Option Value → State → Heap → Prop} (h : ∀ x : S, Ct l y ws k A av (P x) Q) : Ct l y ws k A av (fun U H => ∃ x, P x U H) Q :=
  ⟨zSt_ex (fun x => (h x).1), fun p e ha hc hk s m args below hf happ hP hK => by
    obtain ⟨e1, x, hx⟩ := hP
    exact (h x).2 p e ha hc hk s m args below hf happ ⟨e1, hx⟩ hK⟩
theorem Ct_pre {l : Launch} {y : MethodName} {ws : List Cond} {k : Nat} {A : Nat → Prop} {av : List Value} {P P' : State → Heap → Prop} {Q : Option Value → State → Heap → Prop} (h : Ct l y ws k A av P Q) (hs : zSt P') (hi : ∀ U H, P' U H → P U H) : Ct l y ws k A av P' Q :=
  ⟨hs, fun p e ha hc hk s m args below hf happ hP hK => h.2 p e ha hc hk s m args below hf happ ⟨hP.1, hi _ _ hP.2⟩ hK⟩
theorem Ct_post {l : Launch} {y : MethodName} {ws : List Cond} {k : Nat} {A : Nat → Prop} {av : List Value} {P : State → Heap → Prop} {Q Q' : Option Value → State → Heap → Prop} (h : Ct l y ws k A av P Q) (hi : ∀ v U H, Q v U H → Q' v U H) : Ct l y ws k A av P Q' :=
  ⟨h.1, fun p e ha hc hk s m args below hf happ hP hK => by
    obtain ⟨n, o, h1, h2, h3, ⟨⟨v, e1, hq⟩, hF⟩, h4⟩ := h.2 p e ha hc hk s m args below hf happ hP hK
    exact ⟨n, o, h1, h2, h3, ⟨⟨v, e1, hi _ _ _ hq⟩, hF⟩, h4⟩⟩
theorem CtX_ex {S : Type} {l : Launch} {y : MethodName} {ws : List Cond} {k : Nat} {av : List Value} {P : S → State → Heap → Prop} {E : String} (h : ∀ x : S, CtX l y ws k av (P x) E) : CtX l y ws k av (fun U H => ∃ x, P x U H) E :=
  ⟨zSt_ex (fun x => (h x).1), fun p e ha hc hk s m args below hf happ hP hK => by
    obtain ⟨e1, x, hx⟩ := hP
    exact (h x).2 p e ha hc hk s m args below hf happ ⟨e1, hx⟩ hK⟩
theorem CtX_pre {l : Launch} {y : MethodName} {ws : List Cond} {k : Nat} {av : List Value} {P P' : State → Heap → Prop} {E : String} (h : CtX l y ws k av P E) (hs : zSt P') (hi : ∀ U H, P' U H → P U H) : CtX l y ws k av P' E :=
  ⟨hs, fun p e ha hc hk s m args below hf happ hP hK => h.2 p e ha hc hk s m args below hf happ ⟨hP.1, hi _ _ hP.2⟩ hK⟩
theorem zSt_XO {D : va_G} {cI cB : ClassId} {x d la t ba tt : Nat} {ad : Nat → Nat} {tx : List Int} : zSt (XO D cI cB x d la t ba tt ad tx) := zSt_of zSa_XO
theorem k_show (l : Launch) (D : va_G) (cI cB : ClassId) (x d la t ba tt : Nat) (ad : Nat → Nat) (tx : List Int) (kI vI kN vN : Nat) (kd : Int) (pr : Nat) (gr pt : Int) (B : Int64) (hkd : 0 ≤ kd ∧ kd ≤ 2) (hpr : pr ≤ 1200) (hgr : gr = 0 ∨ gr = 1) (hpt : pt = 0 ∨ pt = 1) : Ct l y_EN_show (ws_EN_show) 7 (AX x d la t ba) [.ref x, .int (iz kd), .int (iz (pr : Int)), .int (iz gr), .int (iz pt), .long B] (fun U H => XO D cI cB x d la t ba tt ad tx U H ∧ SX (AX x d la t ba) kI vI kN vN U H) (zR (some (.int (iz ((outT 52 2047 (-1074) kd pr gr pt B).length : Int)))) (XO D cI cB x d la t ba tt ad (outT 52 2047 (-1074) kd pr gr pt B))) :=
  Ct_pre (Ct_ex (fun V : Int => c_EN_show l D cI cB x d la t ba tt ad V tx kI vI kN vN kd pr gr pt B hkd hpr hgr hpt)) (zSt_and zSt_XO zSt_SX) (fun U H h => ⟨h.1.choose, h.1.choose_spec, h.2⟩)
theorem k_showFloat (l : Launch) (D : va_G) (cI cB : ClassId) (x d la t ba tt : Nat) (ad : Nat → Nat) (tx : List Int) (kI vI kN vN : Nat) (kd : Int) (pr : Nat) (gr pt : Int) (B : Int32) (hkd : 0 ≤ kd ∧ kd ≤ 2) (hpr : pr ≤ 1200) (hgr : gr = 0 ∨ gr = 1) (hpt : pt = 0 ∨ pt = 1) : Ct l y_EN_showFloat (ws_EN_showFloat) 7 (AX x d la t ba) [.ref x, .int (iz kd), .int (iz (pr : Int)), .int (iz gr), .int (iz pt), .int B] (fun U H => XO D cI cB x d la t ba tt ad tx U H ∧ SX (AX x d la t ba) kI vI kN vN U H) (zR (some (.int (iz ((outT 23 255 (-149) kd pr gr pt B.toInt64).length : Int)))) (XO D cI cB x d la t ba tt ad (outT 23 255 (-149) kd pr gr pt B.toInt64))) :=
  Ct_pre (Ct_ex (fun V : Int => c_EN_showFloat l D cI cB x d la t ba tt ad V tx kI vI kN vN kd pr gr pt B hkd hpr hgr hpt)) (zSt_and zSt_XO zSt_SX) (fun U H h => ⟨h.1.choose, h.1.choose_spec, h.2⟩)
theorem k_word (l : Launch) (D : va_G) (cI cB : ClassId) (x d la t ba tt : Nat) (ad : Nat → Nat) (tx : List Int) (st : Nat) (hst : st < tx.length) : Ct l y_EN_word (ws_EN_word) 1 (AX x d la t ba) [.ref x, .int (iz (st : Int))] (XO D cI cB x d la t ba tt ad tx) (zR (some (.long (lz (w8 tx st 8)))) (XO D cI cB x d la t ba tt ad tx)) :=
  Ct_post (Ct_ex (fun V : Int => Ct_post (c_EN_word l D cI cB x d la t ba tt ad V tx st hst) (fun v U H h => (⟨h.1, V, h.2⟩ : zR (some (.long (lz (w8 tx st 8)))) (XO D cI cB x d la t ba tt ad tx) v U H)))) (fun _ _ _ h => h)
theorem k_wordX (l : Launch) (htr : ∀ e : Env, l.admits e → e.platform.stackTraces = false) (D : va_G) (cI cB : ClassId) (x d la t ba tt : Nat) (ad : Nat → Nat) (tx : List Int) (k57 k60 k46 : Nat) (i : Int) (hi : iR i) (ho : i < 0 ∨ (tx.length : Int) ≤ i) : CtX l y_EN_word (ws_EN_word) 6 [.ref x, .int (iz i)] (fun U H => XO D cI cB x d la t ba tt ad tx U H ∧ XT k57 k60 k46 (fun _ => False) U H) cIO :=
  CtX_pre (CtX_ex (fun V : Int => c_EN_wordX l htr D cI cB x d la t ba tt ad V tx k57 k60 k46 i hi ho)) (zSt_and zSt_XO zSt_XT) (fun U H h => ⟨h.1.choose, h.1.choose_spec, h.2⟩)
theorem k_Mthrown (l : Launch) (D : va_G) (cB cL : ClassId) (mo rs ex xd li bo cu cd : Nat) (co : Int) (rt : List Int) : Ct l y_Mo_thrown (ws_Mo_thrown) 0 (AM mo rs ex xd li bo cu cd) [.ref mo] (MR D cB cL mo rs ex xd li bo cu cd co rt) (zR (some (.int (iz co))) (MR D cB cL mo rs ex xd li bo cu cd co rt)) :=
  Ct_pre (Ct_ex (fun z : Int × Int × List Int × Int × Int => Ct_post (c_Mo_thrown l D cB cL mo rs ex xd li bo cu cd co z.1 z.2.1 rt z.2.2.1 z.2.2.2.1 z.2.2.2.2) (fun v U H h => (⟨h.1, _, _, _, _, _, h.2⟩ : zR (some (.int (iz co))) (MR D cB cL mo rs ex xd li bo cu cd co rt) v U H)))) zSt_MR (fun U H h => by
    obtain ⟨bi, le, bt, V, C, h⟩ := h
    exact ⟨⟨bi, le, bt, V, C⟩, h⟩)
theorem k_MwordIn (l : Launch) (D : va_G) (cB cL : ClassId) (mo rs ex xd li bo cu cd : Nat) (co : Int) (rt : List Int) (st : Nat) (hst : st < rt.length) : Ct l y_Mo_word (ws_Mo_word) 1 (AM mo rs ex xd li bo cu cd) [.ref mo, .int (iz (st : Int))] (MR D cB cL mo rs ex xd li bo cu cd co rt) (zR (some (.long (lz (w8 rt st 8)))) (MR D cB cL mo rs ex xd li bo cu cd 0 rt)) :=
  Ct_pre (Ct_ex (fun z : Int × Int × List Int × Int × Int => Ct_post (c_Mo_wordIn l D cB cL mo rs ex xd li bo cu cd co z.1 z.2.1 rt z.2.2.1 z.2.2.2.1 z.2.2.2.2 st hst) (fun v U H h => (⟨h.1, _, _, _, _, _, h.2⟩ : zR (some (.long (lz (w8 rt st 8)))) (MR D cB cL mo rs ex xd li bo cu cd 0 rt) v U H)))) zSt_MR (fun U H h => by
    obtain ⟨bi, le, bt, V, C, h⟩ := h
    exact ⟨⟨bi, le, bt, V, C⟩, h⟩)
theorem k_MwordOut (l : Launch) (D : va_G) (cB cL : ClassId) (mo rs ex xd li bo cu cd : Nat) (co : Int) (rt : List Int) (i : Int) (hi : iR i) (ho : i < 0 ∨ (rt.length : Int) ≤ i) : Ct l y_Mo_word (ws_Mo_word) 1 (AM mo rs ex xd li bo cu cd) [.ref mo, .int (iz i)] (MR D cB cL mo rs ex xd li bo cu cd co rt) (zR (some (.long (lz 0))) (MR D cB cL mo rs ex xd li bo cu cd 1 rt)) :=
  Ct_pre (Ct_ex (fun z : Int × Int × List Int × Int × Int => Ct_post (c_Mo_wordOut l D cB cL mo rs ex xd li bo cu cd co z.1 z.2.1 rt z.2.2.1 z.2.2.2.1 z.2.2.2.2 i hi ho) (fun v U H h => (⟨h.1, _, _, _, _, _, h.2⟩ : zR (some (.long (lz 0))) (MR D cB cL mo rs ex xd li bo cu cd 1 rt) v U H)))) zSt_MR (fun U H h => by
    obtain ⟨bi, le, bt, V, C, h⟩ := h
    exact ⟨⟨bi, le, bt, V, C⟩, h⟩)
