def k_De_formOfSingle_673 (q : z_Sg) : Option Int32 :=
  some (0 : Int32)
def k_De_formOfSingle_646 (q : z_Sg) : Option Int32 :=
  some (2 : Int32)
def k_De_formOfSingle_651 (q : z_Sg) : Option Int32 :=
  some (128 : Int32)
def k_De_formOfSingle_658 (q : z_Sg) : Option Int32 :=
  some (130 : Int32)
def k_De_formOfSingle_648 (q : z_Sg) : Option Int32 :=
  some (8 : Int32)
def k_De_formOfSingle_655 (q : z_Sg) : Option Int32 :=
  some (10 : Int32)
def k_De_formOfSingle_644 (q : z_Sg) : Option Int32 :=
  some (1 : Int32)
def k_De_formOfSingle_662 (q : z_Sg) : Option Int32 :=
  some (4 : Int32)
def k_De_formOfSingle_667 (q : z_Sg) : Option Int32 :=
  some (12 : Int32)
def k_De_formOfSingle_670 (q : z_Sg) : Option Int32 :=
  some (36 : Int32)
set_option maxRecDepth 100000 in
def f_De_formOfSingle (x0 : Int32) (q : z_Sg) : Option Int32 :=
  if x0 < (99 : Int32) then (k_De_formOfSingle_673 q) else (if (255 : Int32) < x0 then (k_De_formOfSingle_673 q) else (if x0 = (99 : Int32) then (k_De_formOfSingle_646 q) else (if x0 = (100 : Int32) then (k_De_formOfSingle_673 q) else (if x0 = (101 : Int32) then (k_De_formOfSingle_673 q) else (if x0 = (102 : Int32) then (k_De_formOfSingle_673 q) else (if x0 = (103 : Int32) then (k_De_formOfSingle_673 q) else (if x0 = (104 : Int32) then (k_De_formOfSingle_651 q) else (if x0 = (105 : Int32) then (k_De_formOfSingle_658 q) else (if x0 = (106 : Int32) then (k_De_formOfSingle_648 q) else (if x0 = (107 : Int32) then (k_De_formOfSingle_655 q) else (if x0 = (108 : Int32) then (k_De_formOfSingle_673 q) else (if x0 = (109 : Int32) then (k_De_formOfSingle_673 q) else (if x0 = (110 : Int32) then (k_De_formOfSingle_673 q) else (if x0 = (111 : Int32) then (k_De_formOfSingle_673 q) else (if x0 = (112 : Int32) then (k_De_formOfSingle_673 q) else (if x0 = (113 : Int32) then (k_De_formOfSingle_673 q) else (if x0 = (114 : Int32) then (k_De_formOfSingle_673 q) else (if x0 = (115 : Int32) then (k_De_formOfSingle_673 q) else (if x0 = (116 : Int32) then (k_De_formOfSingle_673 q) else (if x0 = (117 : Int32) then (k_De_formOfSingle_673 q) else (if x0 = (118 : Int32) then (k_De_formOfSingle_673 q) else (if x0 = (119 : Int32) then (k_De_formOfSingle_673 q) else (if x0 = (120 : Int32) then (k_De_formOfSingle_673 q) else (if x0 = (121 : Int32) then (k_De_formOfSingle_673 q) else (if x0 = (122 : Int32) then (k_De_formOfSingle_673 q) else (if x0 = (123 : Int32) then (k_De_formOfSingle_673 q) else (if x0 = (124 : Int32) then (k_De_formOfSingle_673 q) else (if x0 = (125 : Int32) then (k_De_formOfSingle_673 q) else (if x0 = (126 : Int32) then (k_De_formOfSingle_673 q) else (if x0 = (127 : Int32) then (k_De_formOfSingle_673 q) else (if x0 = (128 : Int32) then (k_De_formOfSingle_655 q) else (if x0 = (129 : Int32) then (k_De_formOfSingle_658 q) else (if x0 = (130 : Int32) then (k_De_formOfSingle_673 q) else (if x0 = (131 : Int32) then (k_De_formOfSingle_655 q) else (if x0 = (132 : Int32) then (k_De_formOfSingle_646 q) else (if x0 = (133 : Int32) then (k_De_formOfSingle_646 q) else (if x0 = (134 : Int32) then (k_De_formOfSingle_646 q) else (if x0 = (135 : Int32) then (k_De_formOfSingle_646 q) else (if x0 = (136 : Int32) then (k_De_formOfSingle_646 q) else (if x0 = (137 : Int32) then (k_De_formOfSingle_646 q) else (if x0 = (138 : Int32) then (k_De_formOfSingle_646 q) else (if x0 = (139 : Int32) then (k_De_formOfSingle_646 q) else (if x0 = (140 : Int32) then (k_De_formOfSingle_673 q) else (if x0 = (141 : Int32) then (k_De_formOfSingle_646 q) else (if x0 = (142 : Int32) then (k_De_formOfSingle_673 q) else (if x0 = (143 : Int32) then (k_De_formOfSingle_646 q) else (if x0 = (144 : Int32) then (k_De_formOfSingle_673 q) else (if x0 = (145 : Int32) then (k_De_formOfSingle_673 q) else (if x0 = (146 : Int32) then (k_De_formOfSingle_673 q) else (if x0 = (147 : Int32) then (k_De_formOfSingle_673 q) else (if x0 = (148 : Int32) then (k_De_formOfSingle_673 q) else (if x0 = (149 : Int32) then (k_De_formOfSingle_673 q) else (if x0 = (150 : Int32) then (k_De_formOfSingle_673 q) else (if x0 = (151 : Int32) then (k_De_formOfSingle_673 q) else (if x0 = (152 : Int32) then (k_De_formOfSingle_644 q) else (if x0 = (153 : Int32) then (k_De_formOfSingle_644 q) else (if x0 = (154 : Int32) then (k_De_formOfSingle_673 q) else (if x0 = (155 : Int32) then (k_De_formOfSingle_673 q) else (if x0 = (156 : Int32) then (k_De_formOfSingle_644 q) else (if x0 = (157 : Int32) then (k_De_formOfSingle_644 q) else (if x0 = (158 : Int32) then (k_De_formOfSingle_673 q) else (if x0 = (159 : Int32) then (k_De_formOfSingle_673 q) else (if x0 = (160 : Int32) then (k_De_formOfSingle_673 q) else (if x0 = (161 : Int32) then (k_De_formOfSingle_673 q) else (if x0 = (162 : Int32) then (k_De_formOfSingle_673 q) else (if x0 = (163 : Int32) then (k_De_formOfSingle_673 q) else (if x0 = (164 : Int32) then (k_De_formOfSingle_644 q) else (if x0 = (165 : Int32) then (k_De_formOfSingle_644 q) else (if x0 = (166 : Int32) then (k_De_formOfSingle_644 q) else (if x0 = (167 : Int32) then (k_De_formOfSingle_644 q) else (if x0 = (168 : Int32) then (k_De_formOfSingle_648 q) else (if x0 = (169 : Int32) then (k_De_formOfSingle_651 q) else (if x0 = (170 : Int32) then (k_De_formOfSingle_644 q) else (if x0 = (171 : Int32) then (k_De_formOfSingle_644 q) else (if x0 = (172 : Int32) then (k_De_formOfSingle_644 q) else (if x0 = (173 : Int32) then (k_De_formOfSingle_644 q) else (if x0 = (174 : Int32) then (k_De_formOfSingle_644 q) else (if x0 = (175 : Int32) then (k_De_formOfSingle_644 q) else (if x0 = (176 : Int32) then (k_De_formOfSingle_673 q) else (if x0 = (177 : Int32) then (k_De_formOfSingle_673 q) else (if x0 = (178 : Int32) then (k_De_formOfSingle_673 q) else (if x0 = (179 : Int32) then (k_De_formOfSingle_673 q) else (if x0 = (180 : Int32) then (k_De_formOfSingle_673 q) else (if x0 = (181 : Int32) then (k_De_formOfSingle_673 q) else (if x0 = (182 : Int32) then (k_De_formOfSingle_673 q) else (if x0 = (183 : Int32) then (k_De_formOfSingle_673 q) else (if x0 = (184 : Int32) then (k_De_formOfSingle_673 q) else (if x0 = (185 : Int32) then (k_De_formOfSingle_673 q) else (if x0 = (186 : Int32) then (k_De_formOfSingle_673 q) else (if x0 = (187 : Int32) then (k_De_formOfSingle_673 q) else (if x0 = (188 : Int32) then (k_De_formOfSingle_673 q) else (if x0 = (189 : Int32) then (k_De_formOfSingle_673 q) else (if x0 = (190 : Int32) then (k_De_formOfSingle_673 q) else (if x0 = (191 : Int32) then (k_De_formOfSingle_673 q) else (if x0 = (192 : Int32) then (k_De_formOfSingle_655 q) else (if x0 = (193 : Int32) then (k_De_formOfSingle_655 q) else (if x0 = (194 : Int32) then (some (20 : Int32)) else (if x0 = (195 : Int32) then (k_De_formOfSingle_662 q) else (if x0 = (196 : Int32) then (k_De_formOfSingle_673 q) else (if x0 = (197 : Int32) then (k_De_formOfSingle_673 q) else (if x0 = (198 : Int32) then (k_De_formOfSingle_655 q) else (if x0 = (199 : Int32) then (k_De_formOfSingle_658 q) else (if x0 = (200 : Int32) then (k_De_formOfSingle_673 q) else (if x0 = (201 : Int32) then (k_De_formOfSingle_662 q) else (if x0 = (202 : Int32) then (k_De_formOfSingle_673 q) else (if x0 = (203 : Int32) then (k_De_formOfSingle_673 q) else (if x0 = (204 : Int32) then (k_De_formOfSingle_673 q) else (if x0 = (205 : Int32) then (k_De_formOfSingle_673 q) else (if x0 = (206 : Int32) then (k_De_formOfSingle_673 q) else (if x0 = (207 : Int32) then (k_De_formOfSingle_673 q) else (if x0 = (208 : Int32) then (k_De_formOfSingle_646 q) else (if x0 = (209 : Int32) then (k_De_formOfSingle_646 q) else (if x0 = (210 : Int32) then (k_De_formOfSingle_646 q) else (if x0 = (211 : Int32) then (k_De_formOfSingle_646 q) else (if x0 = (212 : Int32) then (k_De_formOfSingle_673 q) else (if x0 = (213 : Int32) then (k_De_formOfSingle_673 q) else (if x0 = (214 : Int32) then (k_De_formOfSingle_673 q) else (if x0 = (215 : Int32) then (k_De_formOfSingle_673 q) else (if x0 = (216 : Int32) then (k_De_formOfSingle_673 q) else (if x0 = (217 : Int32) then (k_De_formOfSingle_673 q) else (if x0 = (218 : Int32) then (k_De_formOfSingle_673 q) else (if x0 = (219 : Int32) then (k_De_formOfSingle_673 q) else (if x0 = (220 : Int32) then (k_De_formOfSingle_673 q) else (if x0 = (221 : Int32) then (k_De_formOfSingle_673 q) else (if x0 = (222 : Int32) then (k_De_formOfSingle_673 q) else (if x0 = (223 : Int32) then (k_De_formOfSingle_673 q) else (if x0 = (224 : Int32) then (k_De_formOfSingle_667 q) else (if x0 = (225 : Int32) then (k_De_formOfSingle_667 q) else (if x0 = (226 : Int32) then (k_De_formOfSingle_667 q) else (if x0 = (227 : Int32) then (k_De_formOfSingle_667 q) else (if x0 = (228 : Int32) then (k_De_formOfSingle_673 q) else (if x0 = (229 : Int32) then (k_De_formOfSingle_673 q) else (if x0 = (230 : Int32) then (k_De_formOfSingle_673 q) else (if x0 = (231 : Int32) then (k_De_formOfSingle_673 q) else (if x0 = (232 : Int32) then (k_De_formOfSingle_670 q) else (if x0 = (233 : Int32) then (k_De_formOfSingle_670 q) else (if x0 = (234 : Int32) then (k_De_formOfSingle_673 q) else (if x0 = (235 : Int32) then (k_De_formOfSingle_667 q) else (if x0 = (236 : Int32) then (k_De_formOfSingle_673 q) else (if x0 = (237 : Int32) then (k_De_formOfSingle_673 q) else (if x0 = (238 : Int32) then (k_De_formOfSingle_673 q) else (if x0 = (239 : Int32) then (k_De_formOfSingle_673 q) else (if x0 = (240 : Int32) then (k_De_formOfSingle_673 q) else (if x0 = (241 : Int32) then (k_De_formOfSingle_673 q) else (if x0 = (242 : Int32) then (k_De_formOfSingle_673 q) else (if x0 = (243 : Int32) then (k_De_formOfSingle_673 q) else (if x0 = (244 : Int32) then (k_De_formOfSingle_673 q) else (if x0 = (245 : Int32) then (k_De_formOfSingle_644 q) else (if x0 = (246 : Int32) then (k_De_formOfSingle_646 q) else (if x0 = (247 : Int32) then (k_De_formOfSingle_646 q) else (if x0 = (248 : Int32) then (k_De_formOfSingle_644 q) else (if x0 = (249 : Int32) then (k_De_formOfSingle_644 q) else (if x0 = (250 : Int32) then (k_De_formOfSingle_673 q) else (if x0 = (251 : Int32) then (k_De_formOfSingle_673 q) else (if x0 = (252 : Int32) then (k_De_formOfSingle_644 q) else (if x0 = (253 : Int32) then (k_De_formOfSingle_644 q) else (if x0 = (254 : Int32) then (k_De_formOfSingle_646 q) else (k_De_formOfSingle_646 q))))))))))))))))))))))))))))))))))))))))))))))))))))))))))))))))))))))))))))))))))))))))))))))))))))))))))))))))))))))))))))))))))))))))))))))))))))))))))))))
set_option maxHeartbeats 4000000 in
set_option maxRecDepth 100000 in
theorem w_De_formOfSingle_673 {p : Program} {l : Launch} {e : Env} {s : State} {m : MethodId} {args : Array Value} {below : List Frame} {meth : Method} {c : Code} {D : va_G} {A : Nat → Prop} {ad : Nat → Nat} {ca : Nat → ClassId} (o : Int32) (C0 : z_cx z_RDe b_De_formOfSingle 1 (some .int) D (z_Kt ca) A p s m args meth c) (q : z_Sg) (h : k_De_formOfSingle_673 q = some o) : ∀ (H : Heap) (locs : List Loc) (ls : Array Slot), z_wd D (z_K ad ca q) A s H locs → lv_has ls 1 [] → W p l e (z_rm 0 0) s m args below meth c H locs 0 0 (z_qi below D (z_Kt ca) (z_K ad ca q) A s args o) (F0 m 673 ls []) := by
  obtain ⟨hx, hb, hr, hlk, hml, hown, hts, hK, hA⟩ := id C0
  intro H locs ls hw hl
  refine lv_iconst (v := (0 : Int32)) hx hb d_De_formOfSingle_673 (by decide) ?_
  have ho := Option.some.inj h
  subst ho
  exact z_rti C0 hw d_De_formOfSingle_674
set_option maxHeartbeats 4000000 in
set_option maxRecDepth 100000 in
theorem w_De_formOfSingle_646 {p : Program} {l : Launch} {e : Env} {s : State} {m : MethodId} {args : Array Value} {below : List Frame} {meth : Method} {c : Code} {D : va_G} {A : Nat → Prop} {ad : Nat → Nat} {ca : Nat → ClassId} (o : Int32) (C0 : z_cx z_RDe b_De_formOfSingle 1 (some .int) D (z_Kt ca) A p s m args meth c) (q : z_Sg) (h : k_De_formOfSingle_646 q = some o) : ∀ (H : Heap) (locs : List Loc) (ls : Array Slot), z_wd D (z_K ad ca q) A s H locs → lv_has ls 1 [] → W p l e (z_rm 0 0) s m args below meth c H locs 0 0 (z_qi below D (z_Kt ca) (z_K ad ca q) A s args o) (F0 m 646 ls []) := by
  obtain ⟨hx, hb, hr, hlk, hml, hown, hts, hK, hA⟩ := id C0
  intro H locs ls hw hl
  refine lv_iconst (v := (2 : Int32)) hx hb d_De_formOfSingle_646 (by decide) ?_
  have ho := Option.some.inj h
  subst ho
  exact z_rti C0 hw d_De_formOfSingle_647
set_option maxHeartbeats 4000000 in
set_option maxRecDepth 100000 in
theorem w_De_formOfSingle_651 {p : Program} {l : Launch} {e : Env} {s : State} {m : MethodId} {args : Array Value} {below : List Frame} {meth : Method} {c : Code} {D : va_G} {A : Nat → Prop} {ad : Nat → Nat} {ca : Nat → ClassId} (o : Int32) (C0 : z_cx z_RDe b_De_formOfSingle 1 (some .int) D (z_Kt ca) A p s m args meth c) (q : z_Sg) (h : k_De_formOfSingle_651 q = some o) : ∀ (H : Heap) (locs : List Loc) (ls : Array Slot), z_wd D (z_K ad ca q) A s H locs → lv_has ls 1 [] → W p l e (z_rm 0 0) s m args below meth c H locs 0 0 (z_qi below D (z_Kt ca) (z_K ad ca q) A s args o) (F0 m 651 ls []) := by
  obtain ⟨hx, hb, hr, hlk, hml, hown, hts, hK, hA⟩ := id C0
  intro H locs ls hw hl
  refine lv_sipush (v := (128 : Int32)) hx hb d_De_formOfSingle_651 (by decide) ?_
  have ho := Option.some.inj h
  subst ho
  exact z_rti C0 hw d_De_formOfSingle_654
set_option maxHeartbeats 4000000 in
set_option maxRecDepth 100000 in
theorem w_De_formOfSingle_658 {p : Program} {l : Launch} {e : Env} {s : State} {m : MethodId} {args : Array Value} {below : List Frame} {meth : Method} {c : Code} {D : va_G} {A : Nat → Prop} {ad : Nat → Nat} {ca : Nat → ClassId} (o : Int32) (C0 : z_cx z_RDe b_De_formOfSingle 1 (some .int) D (z_Kt ca) A p s m args meth c) (q : z_Sg) (h : k_De_formOfSingle_658 q = some o) : ∀ (H : Heap) (locs : List Loc) (ls : Array Slot), z_wd D (z_K ad ca q) A s H locs → lv_has ls 1 [] → W p l e (z_rm 0 0) s m args below meth c H locs 0 0 (z_qi below D (z_Kt ca) (z_K ad ca q) A s args o) (F0 m 658 ls []) := by
  obtain ⟨hx, hb, hr, hlk, hml, hown, hts, hK, hA⟩ := id C0
  intro H locs ls hw hl
  refine lv_sipush (v := (130 : Int32)) hx hb d_De_formOfSingle_658 (by decide) ?_
  have ho := Option.some.inj h
  subst ho
  exact z_rti C0 hw d_De_formOfSingle_661
set_option maxHeartbeats 4000000 in
set_option maxRecDepth 100000 in
theorem w_De_formOfSingle_648 {p : Program} {l : Launch} {e : Env} {s : State} {m : MethodId} {args : Array Value} {below : List Frame} {meth : Method} {c : Code} {D : va_G} {A : Nat → Prop} {ad : Nat → Nat} {ca : Nat → ClassId} (o : Int32) (C0 : z_cx z_RDe b_De_formOfSingle 1 (some .int) D (z_Kt ca) A p s m args meth c) (q : z_Sg) (h : k_De_formOfSingle_648 q = some o) : ∀ (H : Heap) (locs : List Loc) (ls : Array Slot), z_wd D (z_K ad ca q) A s H locs → lv_has ls 1 [] → W p l e (z_rm 0 0) s m args below meth c H locs 0 0 (z_qi below D (z_Kt ca) (z_K ad ca q) A s args o) (F0 m 648 ls []) := by
  obtain ⟨hx, hb, hr, hlk, hml, hown, hts, hK, hA⟩ := id C0
  intro H locs ls hw hl
  refine lv_bipush (v := (8 : Int32)) hx hb d_De_formOfSingle_648 (by decide) ?_
  have ho := Option.some.inj h
  subst ho
  exact z_rti C0 hw d_De_formOfSingle_650
set_option maxHeartbeats 4000000 in
set_option maxRecDepth 100000 in
theorem w_De_formOfSingle_655 {p : Program} {l : Launch} {e : Env} {s : State} {m : MethodId} {args : Array Value} {below : List Frame} {meth : Method} {c : Code} {D : va_G} {A : Nat → Prop} {ad : Nat → Nat} {ca : Nat → ClassId} (o : Int32) (C0 : z_cx z_RDe b_De_formOfSingle 1 (some .int) D (z_Kt ca) A p s m args meth c) (q : z_Sg) (h : k_De_formOfSingle_655 q = some o) : ∀ (H : Heap) (locs : List Loc) (ls : Array Slot), z_wd D (z_K ad ca q) A s H locs → lv_has ls 1 [] → W p l e (z_rm 0 0) s m args below meth c H locs 0 0 (z_qi below D (z_Kt ca) (z_K ad ca q) A s args o) (F0 m 655 ls []) := by
  obtain ⟨hx, hb, hr, hlk, hml, hown, hts, hK, hA⟩ := id C0
  intro H locs ls hw hl
  refine lv_bipush (v := (10 : Int32)) hx hb d_De_formOfSingle_655 (by decide) ?_
  have ho := Option.some.inj h
  subst ho
  exact z_rti C0 hw d_De_formOfSingle_657
set_option maxHeartbeats 4000000 in
set_option maxRecDepth 100000 in
theorem w_De_formOfSingle_644 {p : Program} {l : Launch} {e : Env} {s : State} {m : MethodId} {args : Array Value} {below : List Frame} {meth : Method} {c : Code} {D : va_G} {A : Nat → Prop} {ad : Nat → Nat} {ca : Nat → ClassId} (o : Int32) (C0 : z_cx z_RDe b_De_formOfSingle 1 (some .int) D (z_Kt ca) A p s m args meth c) (q : z_Sg) (h : k_De_formOfSingle_644 q = some o) : ∀ (H : Heap) (locs : List Loc) (ls : Array Slot), z_wd D (z_K ad ca q) A s H locs → lv_has ls 1 [] → W p l e (z_rm 0 0) s m args below meth c H locs 0 0 (z_qi below D (z_Kt ca) (z_K ad ca q) A s args o) (F0 m 644 ls []) := by
  obtain ⟨hx, hb, hr, hlk, hml, hown, hts, hK, hA⟩ := id C0
  intro H locs ls hw hl
  refine lv_iconst (v := (1 : Int32)) hx hb d_De_formOfSingle_644 (by decide) ?_
  have ho := Option.some.inj h
  subst ho
  exact z_rti C0 hw d_De_formOfSingle_645
set_option maxHeartbeats 4000000 in
set_option maxRecDepth 100000 in
theorem w_De_formOfSingle_662 {p : Program} {l : Launch} {e : Env} {s : State} {m : MethodId} {args : Array Value} {below : List Frame} {meth : Method} {c : Code} {D : va_G} {A : Nat → Prop} {ad : Nat → Nat} {ca : Nat → ClassId} (o : Int32) (C0 : z_cx z_RDe b_De_formOfSingle 1 (some .int) D (z_Kt ca) A p s m args meth c) (q : z_Sg) (h : k_De_formOfSingle_662 q = some o) : ∀ (H : Heap) (locs : List Loc) (ls : Array Slot), z_wd D (z_K ad ca q) A s H locs → lv_has ls 1 [] → W p l e (z_rm 0 0) s m args below meth c H locs 0 0 (z_qi below D (z_Kt ca) (z_K ad ca q) A s args o) (F0 m 662 ls []) := by
  obtain ⟨hx, hb, hr, hlk, hml, hown, hts, hK, hA⟩ := id C0
  intro H locs ls hw hl
  refine lv_iconst (v := (4 : Int32)) hx hb d_De_formOfSingle_662 (by decide) ?_
  have ho := Option.some.inj h
  subst ho
  exact z_rti C0 hw d_De_formOfSingle_663
set_option maxHeartbeats 4000000 in
set_option maxRecDepth 100000 in
theorem w_De_formOfSingle_667 {p : Program} {l : Launch} {e : Env} {s : State} {m : MethodId} {args : Array Value} {below : List Frame} {meth : Method} {c : Code} {D : va_G} {A : Nat → Prop} {ad : Nat → Nat} {ca : Nat → ClassId} (o : Int32) (C0 : z_cx z_RDe b_De_formOfSingle 1 (some .int) D (z_Kt ca) A p s m args meth c) (q : z_Sg) (h : k_De_formOfSingle_667 q = some o) : ∀ (H : Heap) (locs : List Loc) (ls : Array Slot), z_wd D (z_K ad ca q) A s H locs → lv_has ls 1 [] → W p l e (z_rm 0 0) s m args below meth c H locs 0 0 (z_qi below D (z_Kt ca) (z_K ad ca q) A s args o) (F0 m 667 ls []) := by
  obtain ⟨hx, hb, hr, hlk, hml, hown, hts, hK, hA⟩ := id C0
  intro H locs ls hw hl
  refine lv_bipush (v := (12 : Int32)) hx hb d_De_formOfSingle_667 (by decide) ?_
  have ho := Option.some.inj h
  subst ho
  exact z_rti C0 hw d_De_formOfSingle_669
set_option maxHeartbeats 4000000 in
set_option maxRecDepth 100000 in
theorem w_De_formOfSingle_670 {p : Program} {l : Launch} {e : Env} {s : State} {m : MethodId} {args : Array Value} {below : List Frame} {meth : Method} {c : Code} {D : va_G} {A : Nat → Prop} {ad : Nat → Nat} {ca : Nat → ClassId} (o : Int32) (C0 : z_cx z_RDe b_De_formOfSingle 1 (some .int) D (z_Kt ca) A p s m args meth c) (q : z_Sg) (h : k_De_formOfSingle_670 q = some o) : ∀ (H : Heap) (locs : List Loc) (ls : Array Slot), z_wd D (z_K ad ca q) A s H locs → lv_has ls 1 [] → W p l e (z_rm 0 0) s m args below meth c H locs 0 0 (z_qi below D (z_Kt ca) (z_K ad ca q) A s args o) (F0 m 670 ls []) := by
  obtain ⟨hx, hb, hr, hlk, hml, hown, hts, hK, hA⟩ := id C0
  intro H locs ls hw hl
  refine lv_bipush (v := (36 : Int32)) hx hb d_De_formOfSingle_670 (by decide) ?_
  have ho := Option.some.inj h
  subst ho
  exact z_rti C0 hw d_De_formOfSingle_672
set_option maxHeartbeats 4000000 in
set_option maxRecDepth 100000 in
theorem c_De_formOfSingle {l : Launch} {D : va_G} {ad : Nat → Nat} {ca : Nat → ClassId} (x0 : Int32) (q : z_Sg) (o : Int32) (h : f_De_formOfSingle x0 q = some o) : z_ci l y_De_formOfSingle b_De_formOfSingle 1 (some .int) 0 0 D (z_Kt ca) (z_K ad ca q) (z_K ad ca q) [.int x0] o := by
  refine z_ci_of (own := z_RDe) (by decide) rfl ?_
  intro p e s m below meth c A C0 hw
  obtain ⟨hx, hb, hr, hlk, hml, hown, hts, hK, hA⟩ := id C0
  generalize hH : s.heap = H at hw ⊢
  generalize hlo : ([] : List Loc) = locs at hw ⊢
  refine z_entry (lv := [(0, .int x0)]) (Nat.le_of_ble_eq_true rfl) rfl (fun ls hl => ?_)
  unfold f_De_formOfSingle at h
  refine lv_iload_n hx hb d_De_formOfSingle_0 rfl (lv_at hl 0 rfl) ?_
  by_cases c1 : x0 < (99 : Int32)
  · have h := ok_t h c1
    refine lv_tableOut (tgt := 673) hx hb d_De_formOfSingle_1 (Or.inl (by have z := Int32.lt_iff_toInt_lt.mp c1; rw [show (99 : Int32).toInt = 99 from rfl] at z; exact z)) (by decide) ?_
    exact w_De_formOfSingle_673 o C0 q h H locs ls hw (lv_sub hl [] rfl)
  have h := ok_f h c1
  by_cases c2 : (255 : Int32) < x0
  · have h := ok_t h c2
    refine lv_tableOut (tgt := 673) hx hb d_De_formOfSingle_1 (Or.inr (by have z := Int32.lt_iff_toInt_lt.mp c2; rw [show (255 : Int32).toInt = 255 from rfl] at z; exact z)) (by decide) ?_
    exact w_De_formOfSingle_673 o C0 q h H locs ls hw (lv_sub hl [] rfl)
  have h := ok_f h c2
  have u0 : (99 : Int) ≤ x0.toInt := by have z := c1; rw [Int32.lt_iff_toInt_lt, show (99 : Int32).toInt = 99 from rfl] at z; omega
  have u1 : x0.toInt ≤ (255 : Int) := by have z := c2; rw [Int32.lt_iff_toInt_lt, show (255 : Int32).toInt = 255 from rfl] at z; omega
  by_cases c3 : x0 = (99 : Int32)
  · have h := ok_t h c3
    refine lv_tableIn (off := 645) (tgt := 646) hx hb d_De_formOfSingle_1 (by rw [c3]; decide) (by rw [c3]; decide) (by rw [c3]; rfl) (by decide) ?_
    exact w_De_formOfSingle_646 o C0 q h H locs ls hw (lv_sub hl [] rfl)
  have h := ok_f h c3
  have u0 : (100 : Int) ≤ x0.toInt := by have z := lv_neT c3 (a := 99) rfl; omega
  by_cases c4 : x0 = (100 : Int32)
  · have h := ok_t h c4
    refine lv_tableIn (off := 672) (tgt := 673) hx hb d_De_formOfSingle_1 (by rw [c4]; decide) (by rw [c4]; decide) (by rw [c4]; rfl) (by decide) ?_
    exact w_De_formOfSingle_673 o C0 q h H locs ls hw (lv_sub hl [] rfl)
  have h := ok_f h c4
  have u0 : (101 : Int) ≤ x0.toInt := by have z := lv_neT c4 (a := 100) rfl; omega
  by_cases c5 : x0 = (101 : Int32)
  · have h := ok_t h c5
    refine lv_tableIn (off := 672) (tgt := 673) hx hb d_De_formOfSingle_1 (by rw [c5]; decide) (by rw [c5]; decide) (by rw [c5]; rfl) (by decide) ?_
    exact w_De_formOfSingle_673 o C0 q h H locs ls hw (lv_sub hl [] rfl)
  have h := ok_f h c5
  have u0 : (102 : Int) ≤ x0.toInt := by have z := lv_neT c5 (a := 101) rfl; omega
  by_cases c6 : x0 = (102 : Int32)
  · have h := ok_t h c6
    refine lv_tableIn (off := 672) (tgt := 673) hx hb d_De_formOfSingle_1 (by rw [c6]; decide) (by rw [c6]; decide) (by rw [c6]; rfl) (by decide) ?_
    exact w_De_formOfSingle_673 o C0 q h H locs ls hw (lv_sub hl [] rfl)
  have h := ok_f h c6
  have u0 : (103 : Int) ≤ x0.toInt := by have z := lv_neT c6 (a := 102) rfl; omega
  by_cases c7 : x0 = (103 : Int32)
  · have h := ok_t h c7
    refine lv_tableIn (off := 672) (tgt := 673) hx hb d_De_formOfSingle_1 (by rw [c7]; decide) (by rw [c7]; decide) (by rw [c7]; rfl) (by decide) ?_
    exact w_De_formOfSingle_673 o C0 q h H locs ls hw (lv_sub hl [] rfl)
  have h := ok_f h c7
  have u0 : (104 : Int) ≤ x0.toInt := by have z := lv_neT c7 (a := 103) rfl; omega
  by_cases c8 : x0 = (104 : Int32)
  · have h := ok_t h c8
    refine lv_tableIn (off := 650) (tgt := 651) hx hb d_De_formOfSingle_1 (by rw [c8]; decide) (by rw [c8]; decide) (by rw [c8]; rfl) (by decide) ?_
    exact w_De_formOfSingle_651 o C0 q h H locs ls hw (lv_sub hl [] rfl)
  have h := ok_f h c8
  have u0 : (105 : Int) ≤ x0.toInt := by have z := lv_neT c8 (a := 104) rfl; omega
  by_cases c9 : x0 = (105 : Int32)
  · have h := ok_t h c9
    refine lv_tableIn (off := 657) (tgt := 658) hx hb d_De_formOfSingle_1 (by rw [c9]; decide) (by rw [c9]; decide) (by rw [c9]; rfl) (by decide) ?_
    exact w_De_formOfSingle_658 o C0 q h H locs ls hw (lv_sub hl [] rfl)
  have h := ok_f h c9
  have u0 : (106 : Int) ≤ x0.toInt := by have z := lv_neT c9 (a := 105) rfl; omega
  by_cases c10 : x0 = (106 : Int32)
  · have h := ok_t h c10
    refine lv_tableIn (off := 647) (tgt := 648) hx hb d_De_formOfSingle_1 (by rw [c10]; decide) (by rw [c10]; decide) (by rw [c10]; rfl) (by decide) ?_
    exact w_De_formOfSingle_648 o C0 q h H locs ls hw (lv_sub hl [] rfl)
  have h := ok_f h c10
  have u0 : (107 : Int) ≤ x0.toInt := by have z := lv_neT c10 (a := 106) rfl; omega
  by_cases c11 : x0 = (107 : Int32)
  · have h := ok_t h c11
    refine lv_tableIn (off := 654) (tgt := 655) hx hb d_De_formOfSingle_1 (by rw [c11]; decide) (by rw [c11]; decide) (by rw [c11]; rfl) (by decide) ?_
    exact w_De_formOfSingle_655 o C0 q h H locs ls hw (lv_sub hl [] rfl)
  have h := ok_f h c11
  have u0 : (108 : Int) ≤ x0.toInt := by have z := lv_neT c11 (a := 107) rfl; omega
  by_cases c12 : x0 = (108 : Int32)
  · have h := ok_t h c12
    refine lv_tableIn (off := 672) (tgt := 673) hx hb d_De_formOfSingle_1 (by rw [c12]; decide) (by rw [c12]; decide) (by rw [c12]; rfl) (by decide) ?_
    exact w_De_formOfSingle_673 o C0 q h H locs ls hw (lv_sub hl [] rfl)
  have h := ok_f h c12
  have u0 : (109 : Int) ≤ x0.toInt := by have z := lv_neT c12 (a := 108) rfl; omega
  by_cases c13 : x0 = (109 : Int32)
  · have h := ok_t h c13
    refine lv_tableIn (off := 672) (tgt := 673) hx hb d_De_formOfSingle_1 (by rw [c13]; decide) (by rw [c13]; decide) (by rw [c13]; rfl) (by decide) ?_
    exact w_De_formOfSingle_673 o C0 q h H locs ls hw (lv_sub hl [] rfl)
  have h := ok_f h c13
  have u0 : (110 : Int) ≤ x0.toInt := by have z := lv_neT c13 (a := 109) rfl; omega
  by_cases c14 : x0 = (110 : Int32)
  · have h := ok_t h c14
    refine lv_tableIn (off := 672) (tgt := 673) hx hb d_De_formOfSingle_1 (by rw [c14]; decide) (by rw [c14]; decide) (by rw [c14]; rfl) (by decide) ?_
    exact w_De_formOfSingle_673 o C0 q h H locs ls hw (lv_sub hl [] rfl)
  have h := ok_f h c14
  have u0 : (111 : Int) ≤ x0.toInt := by have z := lv_neT c14 (a := 110) rfl; omega
  by_cases c15 : x0 = (111 : Int32)
  · have h := ok_t h c15
    refine lv_tableIn (off := 672) (tgt := 673) hx hb d_De_formOfSingle_1 (by rw [c15]; decide) (by rw [c15]; decide) (by rw [c15]; rfl) (by decide) ?_
    exact w_De_formOfSingle_673 o C0 q h H locs ls hw (lv_sub hl [] rfl)
  have h := ok_f h c15
  have u0 : (112 : Int) ≤ x0.toInt := by have z := lv_neT c15 (a := 111) rfl; omega
  by_cases c16 : x0 = (112 : Int32)
  · have h := ok_t h c16
    refine lv_tableIn (off := 672) (tgt := 673) hx hb d_De_formOfSingle_1 (by rw [c16]; decide) (by rw [c16]; decide) (by rw [c16]; rfl) (by decide) ?_
    exact w_De_formOfSingle_673 o C0 q h H locs ls hw (lv_sub hl [] rfl)
  have h := ok_f h c16
  have u0 : (113 : Int) ≤ x0.toInt := by have z := lv_neT c16 (a := 112) rfl; omega
  by_cases c17 : x0 = (113 : Int32)
  · have h := ok_t h c17
    refine lv_tableIn (off := 672) (tgt := 673) hx hb d_De_formOfSingle_1 (by rw [c17]; decide) (by rw [c17]; decide) (by rw [c17]; rfl) (by decide) ?_
    exact w_De_formOfSingle_673 o C0 q h H locs ls hw (lv_sub hl [] rfl)
  have h := ok_f h c17
  have u0 : (114 : Int) ≤ x0.toInt := by have z := lv_neT c17 (a := 113) rfl; omega
  by_cases c18 : x0 = (114 : Int32)
  · have h := ok_t h c18
    refine lv_tableIn (off := 672) (tgt := 673) hx hb d_De_formOfSingle_1 (by rw [c18]; decide) (by rw [c18]; decide) (by rw [c18]; rfl) (by decide) ?_
    exact w_De_formOfSingle_673 o C0 q h H locs ls hw (lv_sub hl [] rfl)
  have h := ok_f h c18
  have u0 : (115 : Int) ≤ x0.toInt := by have z := lv_neT c18 (a := 114) rfl; omega
  by_cases c19 : x0 = (115 : Int32)
  · have h := ok_t h c19
    refine lv_tableIn (off := 672) (tgt := 673) hx hb d_De_formOfSingle_1 (by rw [c19]; decide) (by rw [c19]; decide) (by rw [c19]; rfl) (by decide) ?_
    exact w_De_formOfSingle_673 o C0 q h H locs ls hw (lv_sub hl [] rfl)
  have h := ok_f h c19
  have u0 : (116 : Int) ≤ x0.toInt := by have z := lv_neT c19 (a := 115) rfl; omega
  by_cases c20 : x0 = (116 : Int32)
  · have h := ok_t h c20
    refine lv_tableIn (off := 672) (tgt := 673) hx hb d_De_formOfSingle_1 (by rw [c20]; decide) (by rw [c20]; decide) (by rw [c20]; rfl) (by decide) ?_
    exact w_De_formOfSingle_673 o C0 q h H locs ls hw (lv_sub hl [] rfl)
  have h := ok_f h c20
  have u0 : (117 : Int) ≤ x0.toInt := by have z := lv_neT c20 (a := 116) rfl; omega
  by_cases c21 : x0 = (117 : Int32)
  · have h := ok_t h c21
    refine lv_tableIn (off := 672) (tgt := 673) hx hb d_De_formOfSingle_1 (by rw [c21]; decide) (by rw [c21]; decide) (by rw [c21]; rfl) (by decide) ?_
    exact w_De_formOfSingle_673 o C0 q h H locs ls hw (lv_sub hl [] rfl)
  have h := ok_f h c21
  have u0 : (118 : Int) ≤ x0.toInt := by have z := lv_neT c21 (a := 117) rfl; omega
  by_cases c22 : x0 = (118 : Int32)
  · have h := ok_t h c22
    refine lv_tableIn (off := 672) (tgt := 673) hx hb d_De_formOfSingle_1 (by rw [c22]; decide) (by rw [c22]; decide) (by rw [c22]; rfl) (by decide) ?_
    exact w_De_formOfSingle_673 o C0 q h H locs ls hw (lv_sub hl [] rfl)
  have h := ok_f h c22
  have u0 : (119 : Int) ≤ x0.toInt := by have z := lv_neT c22 (a := 118) rfl; omega
  by_cases c23 : x0 = (119 : Int32)
  · have h := ok_t h c23
    refine lv_tableIn (off := 672) (tgt := 673) hx hb d_De_formOfSingle_1 (by rw [c23]; decide) (by rw [c23]; decide) (by rw [c23]; rfl) (by decide) ?_
    exact w_De_formOfSingle_673 o C0 q h H locs ls hw (lv_sub hl [] rfl)
  have h := ok_f h c23
  have u0 : (120 : Int) ≤ x0.toInt := by have z := lv_neT c23 (a := 119) rfl; omega
  by_cases c24 : x0 = (120 : Int32)
  · have h := ok_t h c24
    refine lv_tableIn (off := 672) (tgt := 673) hx hb d_De_formOfSingle_1 (by rw [c24]; decide) (by rw [c24]; decide) (by rw [c24]; rfl) (by decide) ?_
    exact w_De_formOfSingle_673 o C0 q h H locs ls hw (lv_sub hl [] rfl)
  have h := ok_f h c24
  have u0 : (121 : Int) ≤ x0.toInt := by have z := lv_neT c24 (a := 120) rfl; omega
  by_cases c25 : x0 = (121 : Int32)
  · have h := ok_t h c25
    refine lv_tableIn (off := 672) (tgt := 673) hx hb d_De_formOfSingle_1 (by rw [c25]; decide) (by rw [c25]; decide) (by rw [c25]; rfl) (by decide) ?_
    exact w_De_formOfSingle_673 o C0 q h H locs ls hw (lv_sub hl [] rfl)
  have h := ok_f h c25
  have u0 : (122 : Int) ≤ x0.toInt := by have z := lv_neT c25 (a := 121) rfl; omega
  by_cases c26 : x0 = (122 : Int32)
  · have h := ok_t h c26
    refine lv_tableIn (off := 672) (tgt := 673) hx hb d_De_formOfSingle_1 (by rw [c26]; decide) (by rw [c26]; decide) (by rw [c26]; rfl) (by decide) ?_
    exact w_De_formOfSingle_673 o C0 q h H locs ls hw (lv_sub hl [] rfl)
  have h := ok_f h c26
  have u0 : (123 : Int) ≤ x0.toInt := by have z := lv_neT c26 (a := 122) rfl; omega
  by_cases c27 : x0 = (123 : Int32)
  · have h := ok_t h c27
    refine lv_tableIn (off := 672) (tgt := 673) hx hb d_De_formOfSingle_1 (by rw [c27]; decide) (by rw [c27]; decide) (by rw [c27]; rfl) (by decide) ?_
    exact w_De_formOfSingle_673 o C0 q h H locs ls hw (lv_sub hl [] rfl)
  have h := ok_f h c27
  have u0 : (124 : Int) ≤ x0.toInt := by have z := lv_neT c27 (a := 123) rfl; omega
  by_cases c28 : x0 = (124 : Int32)
  · have h := ok_t h c28
    refine lv_tableIn (off := 672) (tgt := 673) hx hb d_De_formOfSingle_1 (by rw [c28]; decide) (by rw [c28]; decide) (by rw [c28]; rfl) (by decide) ?_
    exact w_De_formOfSingle_673 o C0 q h H locs ls hw (lv_sub hl [] rfl)
  have h := ok_f h c28
  have u0 : (125 : Int) ≤ x0.toInt := by have z := lv_neT c28 (a := 124) rfl; omega
  by_cases c29 : x0 = (125 : Int32)
  · have h := ok_t h c29
    refine lv_tableIn (off := 672) (tgt := 673) hx hb d_De_formOfSingle_1 (by rw [c29]; decide) (by rw [c29]; decide) (by rw [c29]; rfl) (by decide) ?_
    exact w_De_formOfSingle_673 o C0 q h H locs ls hw (lv_sub hl [] rfl)
  have h := ok_f h c29
  have u0 : (126 : Int) ≤ x0.toInt := by have z := lv_neT c29 (a := 125) rfl; omega
  by_cases c30 : x0 = (126 : Int32)
  · have h := ok_t h c30
    refine lv_tableIn (off := 672) (tgt := 673) hx hb d_De_formOfSingle_1 (by rw [c30]; decide) (by rw [c30]; decide) (by rw [c30]; rfl) (by decide) ?_
    exact w_De_formOfSingle_673 o C0 q h H locs ls hw (lv_sub hl [] rfl)
  have h := ok_f h c30
  have u0 : (127 : Int) ≤ x0.toInt := by have z := lv_neT c30 (a := 126) rfl; omega
  by_cases c31 : x0 = (127 : Int32)
  · have h := ok_t h c31
    refine lv_tableIn (off := 672) (tgt := 673) hx hb d_De_formOfSingle_1 (by rw [c31]; decide) (by rw [c31]; decide) (by rw [c31]; rfl) (by decide) ?_
    exact w_De_formOfSingle_673 o C0 q h H locs ls hw (lv_sub hl [] rfl)
  have h := ok_f h c31
  have u0 : (128 : Int) ≤ x0.toInt := by have z := lv_neT c31 (a := 127) rfl; omega
  by_cases c32 : x0 = (128 : Int32)
  · have h := ok_t h c32
    refine lv_tableIn (off := 654) (tgt := 655) hx hb d_De_formOfSingle_1 (by rw [c32]; decide) (by rw [c32]; decide) (by rw [c32]; rfl) (by decide) ?_
    exact w_De_formOfSingle_655 o C0 q h H locs ls hw (lv_sub hl [] rfl)
  have h := ok_f h c32
  have u0 : (129 : Int) ≤ x0.toInt := by have z := lv_neT c32 (a := 128) rfl; omega
  by_cases c33 : x0 = (129 : Int32)
  · have h := ok_t h c33
    refine lv_tableIn (off := 657) (tgt := 658) hx hb d_De_formOfSingle_1 (by rw [c33]; decide) (by rw [c33]; decide) (by rw [c33]; rfl) (by decide) ?_
    exact w_De_formOfSingle_658 o C0 q h H locs ls hw (lv_sub hl [] rfl)
  have h := ok_f h c33
  have u0 : (130 : Int) ≤ x0.toInt := by have z := lv_neT c33 (a := 129) rfl; omega
  by_cases c34 : x0 = (130 : Int32)
  · have h := ok_t h c34
    refine lv_tableIn (off := 672) (tgt := 673) hx hb d_De_formOfSingle_1 (by rw [c34]; decide) (by rw [c34]; decide) (by rw [c34]; rfl) (by decide) ?_
    exact w_De_formOfSingle_673 o C0 q h H locs ls hw (lv_sub hl [] rfl)
  have h := ok_f h c34
  have u0 : (131 : Int) ≤ x0.toInt := by have z := lv_neT c34 (a := 130) rfl; omega
  by_cases c35 : x0 = (131 : Int32)
  · have h := ok_t h c35
    refine lv_tableIn (off := 654) (tgt := 655) hx hb d_De_formOfSingle_1 (by rw [c35]; decide) (by rw [c35]; decide) (by rw [c35]; rfl) (by decide) ?_
    exact w_De_formOfSingle_655 o C0 q h H locs ls hw (lv_sub hl [] rfl)
  have h := ok_f h c35
  have u0 : (132 : Int) ≤ x0.toInt := by have z := lv_neT c35 (a := 131) rfl; omega
  by_cases c36 : x0 = (132 : Int32)
  · have h := ok_t h c36
    refine lv_tableIn (off := 645) (tgt := 646) hx hb d_De_formOfSingle_1 (by rw [c36]; decide) (by rw [c36]; decide) (by rw [c36]; rfl) (by decide) ?_
    exact w_De_formOfSingle_646 o C0 q h H locs ls hw (lv_sub hl [] rfl)
  have h := ok_f h c36
  have u0 : (133 : Int) ≤ x0.toInt := by have z := lv_neT c36 (a := 132) rfl; omega
  by_cases c37 : x0 = (133 : Int32)
  · have h := ok_t h c37
    refine lv_tableIn (off := 645) (tgt := 646) hx hb d_De_formOfSingle_1 (by rw [c37]; decide) (by rw [c37]; decide) (by rw [c37]; rfl) (by decide) ?_
    exact w_De_formOfSingle_646 o C0 q h H locs ls hw (lv_sub hl [] rfl)
  have h := ok_f h c37
  have u0 : (134 : Int) ≤ x0.toInt := by have z := lv_neT c37 (a := 133) rfl; omega
  by_cases c38 : x0 = (134 : Int32)
  · have h := ok_t h c38
    refine lv_tableIn (off := 645) (tgt := 646) hx hb d_De_formOfSingle_1 (by rw [c38]; decide) (by rw [c38]; decide) (by rw [c38]; rfl) (by decide) ?_
    exact w_De_formOfSingle_646 o C0 q h H locs ls hw (lv_sub hl [] rfl)
  have h := ok_f h c38
  have u0 : (135 : Int) ≤ x0.toInt := by have z := lv_neT c38 (a := 134) rfl; omega
  by_cases c39 : x0 = (135 : Int32)
  · have h := ok_t h c39
    refine lv_tableIn (off := 645) (tgt := 646) hx hb d_De_formOfSingle_1 (by rw [c39]; decide) (by rw [c39]; decide) (by rw [c39]; rfl) (by decide) ?_
    exact w_De_formOfSingle_646 o C0 q h H locs ls hw (lv_sub hl [] rfl)
  have h := ok_f h c39
  have u0 : (136 : Int) ≤ x0.toInt := by have z := lv_neT c39 (a := 135) rfl; omega
  by_cases c40 : x0 = (136 : Int32)
  · have h := ok_t h c40
    refine lv_tableIn (off := 645) (tgt := 646) hx hb d_De_formOfSingle_1 (by rw [c40]; decide) (by rw [c40]; decide) (by rw [c40]; rfl) (by decide) ?_
    exact w_De_formOfSingle_646 o C0 q h H locs ls hw (lv_sub hl [] rfl)
  have h := ok_f h c40
  have u0 : (137 : Int) ≤ x0.toInt := by have z := lv_neT c40 (a := 136) rfl; omega
  by_cases c41 : x0 = (137 : Int32)
  · have h := ok_t h c41
    refine lv_tableIn (off := 645) (tgt := 646) hx hb d_De_formOfSingle_1 (by rw [c41]; decide) (by rw [c41]; decide) (by rw [c41]; rfl) (by decide) ?_
    exact w_De_formOfSingle_646 o C0 q h H locs ls hw (lv_sub hl [] rfl)
  have h := ok_f h c41
  have u0 : (138 : Int) ≤ x0.toInt := by have z := lv_neT c41 (a := 137) rfl; omega
  by_cases c42 : x0 = (138 : Int32)
  · have h := ok_t h c42
    refine lv_tableIn (off := 645) (tgt := 646) hx hb d_De_formOfSingle_1 (by rw [c42]; decide) (by rw [c42]; decide) (by rw [c42]; rfl) (by decide) ?_
    exact w_De_formOfSingle_646 o C0 q h H locs ls hw (lv_sub hl [] rfl)
  have h := ok_f h c42
  have u0 : (139 : Int) ≤ x0.toInt := by have z := lv_neT c42 (a := 138) rfl; omega
  by_cases c43 : x0 = (139 : Int32)
  · have h := ok_t h c43
    refine lv_tableIn (off := 645) (tgt := 646) hx hb d_De_formOfSingle_1 (by rw [c43]; decide) (by rw [c43]; decide) (by rw [c43]; rfl) (by decide) ?_
    exact w_De_formOfSingle_646 o C0 q h H locs ls hw (lv_sub hl [] rfl)
  have h := ok_f h c43
  have u0 : (140 : Int) ≤ x0.toInt := by have z := lv_neT c43 (a := 139) rfl; omega
  by_cases c44 : x0 = (140 : Int32)
  · have h := ok_t h c44
    refine lv_tableIn (off := 672) (tgt := 673) hx hb d_De_formOfSingle_1 (by rw [c44]; decide) (by rw [c44]; decide) (by rw [c44]; rfl) (by decide) ?_
    exact w_De_formOfSingle_673 o C0 q h H locs ls hw (lv_sub hl [] rfl)
  have h := ok_f h c44
  have u0 : (141 : Int) ≤ x0.toInt := by have z := lv_neT c44 (a := 140) rfl; omega
  by_cases c45 : x0 = (141 : Int32)
  · have h := ok_t h c45
    refine lv_tableIn (off := 645) (tgt := 646) hx hb d_De_formOfSingle_1 (by rw [c45]; decide) (by rw [c45]; decide) (by rw [c45]; rfl) (by decide) ?_
    exact w_De_formOfSingle_646 o C0 q h H locs ls hw (lv_sub hl [] rfl)
  have h := ok_f h c45
  have u0 : (142 : Int) ≤ x0.toInt := by have z := lv_neT c45 (a := 141) rfl; omega
  by_cases c46 : x0 = (142 : Int32)
  · have h := ok_t h c46
    refine lv_tableIn (off := 672) (tgt := 673) hx hb d_De_formOfSingle_1 (by rw [c46]; decide) (by rw [c46]; decide) (by rw [c46]; rfl) (by decide) ?_
    exact w_De_formOfSingle_673 o C0 q h H locs ls hw (lv_sub hl [] rfl)
  have h := ok_f h c46
  have u0 : (143 : Int) ≤ x0.toInt := by have z := lv_neT c46 (a := 142) rfl; omega
  by_cases c47 : x0 = (143 : Int32)
  · have h := ok_t h c47
    refine lv_tableIn (off := 645) (tgt := 646) hx hb d_De_formOfSingle_1 (by rw [c47]; decide) (by rw [c47]; decide) (by rw [c47]; rfl) (by decide) ?_
    exact w_De_formOfSingle_646 o C0 q h H locs ls hw (lv_sub hl [] rfl)
  have h := ok_f h c47
  have u0 : (144 : Int) ≤ x0.toInt := by have z := lv_neT c47 (a := 143) rfl; omega
  by_cases c48 : x0 = (144 : Int32)
  · have h := ok_t h c48
    refine lv_tableIn (off := 672) (tgt := 673) hx hb d_De_formOfSingle_1 (by rw [c48]; decide) (by rw [c48]; decide) (by rw [c48]; rfl) (by decide) ?_
    exact w_De_formOfSingle_673 o C0 q h H locs ls hw (lv_sub hl [] rfl)
  have h := ok_f h c48
  have u0 : (145 : Int) ≤ x0.toInt := by have z := lv_neT c48 (a := 144) rfl; omega
  by_cases c49 : x0 = (145 : Int32)
  · have h := ok_t h c49
    refine lv_tableIn (off := 672) (tgt := 673) hx hb d_De_formOfSingle_1 (by rw [c49]; decide) (by rw [c49]; decide) (by rw [c49]; rfl) (by decide) ?_
    exact w_De_formOfSingle_673 o C0 q h H locs ls hw (lv_sub hl [] rfl)
  have h := ok_f h c49
  have u0 : (146 : Int) ≤ x0.toInt := by have z := lv_neT c49 (a := 145) rfl; omega
  by_cases c50 : x0 = (146 : Int32)
  · have h := ok_t h c50
    refine lv_tableIn (off := 672) (tgt := 673) hx hb d_De_formOfSingle_1 (by rw [c50]; decide) (by rw [c50]; decide) (by rw [c50]; rfl) (by decide) ?_
    exact w_De_formOfSingle_673 o C0 q h H locs ls hw (lv_sub hl [] rfl)
  have h := ok_f h c50
  have u0 : (147 : Int) ≤ x0.toInt := by have z := lv_neT c50 (a := 146) rfl; omega
  by_cases c51 : x0 = (147 : Int32)
  · have h := ok_t h c51
    refine lv_tableIn (off := 672) (tgt := 673) hx hb d_De_formOfSingle_1 (by rw [c51]; decide) (by rw [c51]; decide) (by rw [c51]; rfl) (by decide) ?_
    exact w_De_formOfSingle_673 o C0 q h H locs ls hw (lv_sub hl [] rfl)
  have h := ok_f h c51
  have u0 : (148 : Int) ≤ x0.toInt := by have z := lv_neT c51 (a := 147) rfl; omega
  by_cases c52 : x0 = (148 : Int32)
  · have h := ok_t h c52
    refine lv_tableIn (off := 672) (tgt := 673) hx hb d_De_formOfSingle_1 (by rw [c52]; decide) (by rw [c52]; decide) (by rw [c52]; rfl) (by decide) ?_
    exact w_De_formOfSingle_673 o C0 q h H locs ls hw (lv_sub hl [] rfl)
  have h := ok_f h c52
  have u0 : (149 : Int) ≤ x0.toInt := by have z := lv_neT c52 (a := 148) rfl; omega
  by_cases c53 : x0 = (149 : Int32)
  · have h := ok_t h c53
    refine lv_tableIn (off := 672) (tgt := 673) hx hb d_De_formOfSingle_1 (by rw [c53]; decide) (by rw [c53]; decide) (by rw [c53]; rfl) (by decide) ?_
    exact w_De_formOfSingle_673 o C0 q h H locs ls hw (lv_sub hl [] rfl)
  have h := ok_f h c53
  have u0 : (150 : Int) ≤ x0.toInt := by have z := lv_neT c53 (a := 149) rfl; omega
  by_cases c54 : x0 = (150 : Int32)
  · have h := ok_t h c54
    refine lv_tableIn (off := 672) (tgt := 673) hx hb d_De_formOfSingle_1 (by rw [c54]; decide) (by rw [c54]; decide) (by rw [c54]; rfl) (by decide) ?_
    exact w_De_formOfSingle_673 o C0 q h H locs ls hw (lv_sub hl [] rfl)
  have h := ok_f h c54
  have u0 : (151 : Int) ≤ x0.toInt := by have z := lv_neT c54 (a := 150) rfl; omega
  by_cases c55 : x0 = (151 : Int32)
  · have h := ok_t h c55
    refine lv_tableIn (off := 672) (tgt := 673) hx hb d_De_formOfSingle_1 (by rw [c55]; decide) (by rw [c55]; decide) (by rw [c55]; rfl) (by decide) ?_
    exact w_De_formOfSingle_673 o C0 q h H locs ls hw (lv_sub hl [] rfl)
  have h := ok_f h c55
  have u0 : (152 : Int) ≤ x0.toInt := by have z := lv_neT c55 (a := 151) rfl; omega
  by_cases c56 : x0 = (152 : Int32)
  · have h := ok_t h c56
    refine lv_tableIn (off := 643) (tgt := 644) hx hb d_De_formOfSingle_1 (by rw [c56]; decide) (by rw [c56]; decide) (by rw [c56]; rfl) (by decide) ?_
    exact w_De_formOfSingle_644 o C0 q h H locs ls hw (lv_sub hl [] rfl)
  have h := ok_f h c56
  have u0 : (153 : Int) ≤ x0.toInt := by have z := lv_neT c56 (a := 152) rfl; omega
  by_cases c57 : x0 = (153 : Int32)
  · have h := ok_t h c57
    refine lv_tableIn (off := 643) (tgt := 644) hx hb d_De_formOfSingle_1 (by rw [c57]; decide) (by rw [c57]; decide) (by rw [c57]; rfl) (by decide) ?_
    exact w_De_formOfSingle_644 o C0 q h H locs ls hw (lv_sub hl [] rfl)
  have h := ok_f h c57
  have u0 : (154 : Int) ≤ x0.toInt := by have z := lv_neT c57 (a := 153) rfl; omega
  by_cases c58 : x0 = (154 : Int32)
  · have h := ok_t h c58
    refine lv_tableIn (off := 672) (tgt := 673) hx hb d_De_formOfSingle_1 (by rw [c58]; decide) (by rw [c58]; decide) (by rw [c58]; rfl) (by decide) ?_
    exact w_De_formOfSingle_673 o C0 q h H locs ls hw (lv_sub hl [] rfl)
  have h := ok_f h c58
  have u0 : (155 : Int) ≤ x0.toInt := by have z := lv_neT c58 (a := 154) rfl; omega
  by_cases c59 : x0 = (155 : Int32)
  · have h := ok_t h c59
    refine lv_tableIn (off := 672) (tgt := 673) hx hb d_De_formOfSingle_1 (by rw [c59]; decide) (by rw [c59]; decide) (by rw [c59]; rfl) (by decide) ?_
    exact w_De_formOfSingle_673 o C0 q h H locs ls hw (lv_sub hl [] rfl)
  have h := ok_f h c59
  have u0 : (156 : Int) ≤ x0.toInt := by have z := lv_neT c59 (a := 155) rfl; omega
  by_cases c60 : x0 = (156 : Int32)
  · have h := ok_t h c60
    refine lv_tableIn (off := 643) (tgt := 644) hx hb d_De_formOfSingle_1 (by rw [c60]; decide) (by rw [c60]; decide) (by rw [c60]; rfl) (by decide) ?_
    exact w_De_formOfSingle_644 o C0 q h H locs ls hw (lv_sub hl [] rfl)
  have h := ok_f h c60
  have u0 : (157 : Int) ≤ x0.toInt := by have z := lv_neT c60 (a := 156) rfl; omega
  by_cases c61 : x0 = (157 : Int32)
  · have h := ok_t h c61
    refine lv_tableIn (off := 643) (tgt := 644) hx hb d_De_formOfSingle_1 (by rw [c61]; decide) (by rw [c61]; decide) (by rw [c61]; rfl) (by decide) ?_
    exact w_De_formOfSingle_644 o C0 q h H locs ls hw (lv_sub hl [] rfl)
  have h := ok_f h c61
  have u0 : (158 : Int) ≤ x0.toInt := by have z := lv_neT c61 (a := 157) rfl; omega
  by_cases c62 : x0 = (158 : Int32)
  · have h := ok_t h c62
    refine lv_tableIn (off := 672) (tgt := 673) hx hb d_De_formOfSingle_1 (by rw [c62]; decide) (by rw [c62]; decide) (by rw [c62]; rfl) (by decide) ?_
    exact w_De_formOfSingle_673 o C0 q h H locs ls hw (lv_sub hl [] rfl)
  have h := ok_f h c62
  have u0 : (159 : Int) ≤ x0.toInt := by have z := lv_neT c62 (a := 158) rfl; omega
  by_cases c63 : x0 = (159 : Int32)
  · have h := ok_t h c63
    refine lv_tableIn (off := 672) (tgt := 673) hx hb d_De_formOfSingle_1 (by rw [c63]; decide) (by rw [c63]; decide) (by rw [c63]; rfl) (by decide) ?_
    exact w_De_formOfSingle_673 o C0 q h H locs ls hw (lv_sub hl [] rfl)
  have h := ok_f h c63
  have u0 : (160 : Int) ≤ x0.toInt := by have z := lv_neT c63 (a := 159) rfl; omega
  by_cases c64 : x0 = (160 : Int32)
  · have h := ok_t h c64
    refine lv_tableIn (off := 672) (tgt := 673) hx hb d_De_formOfSingle_1 (by rw [c64]; decide) (by rw [c64]; decide) (by rw [c64]; rfl) (by decide) ?_
    exact w_De_formOfSingle_673 o C0 q h H locs ls hw (lv_sub hl [] rfl)
  have h := ok_f h c64
  have u0 : (161 : Int) ≤ x0.toInt := by have z := lv_neT c64 (a := 160) rfl; omega
  by_cases c65 : x0 = (161 : Int32)
  · have h := ok_t h c65
    refine lv_tableIn (off := 672) (tgt := 673) hx hb d_De_formOfSingle_1 (by rw [c65]; decide) (by rw [c65]; decide) (by rw [c65]; rfl) (by decide) ?_
    exact w_De_formOfSingle_673 o C0 q h H locs ls hw (lv_sub hl [] rfl)
  have h := ok_f h c65
  have u0 : (162 : Int) ≤ x0.toInt := by have z := lv_neT c65 (a := 161) rfl; omega
  by_cases c66 : x0 = (162 : Int32)
  · have h := ok_t h c66
    refine lv_tableIn (off := 672) (tgt := 673) hx hb d_De_formOfSingle_1 (by rw [c66]; decide) (by rw [c66]; decide) (by rw [c66]; rfl) (by decide) ?_
    exact w_De_formOfSingle_673 o C0 q h H locs ls hw (lv_sub hl [] rfl)
  have h := ok_f h c66
  have u0 : (163 : Int) ≤ x0.toInt := by have z := lv_neT c66 (a := 162) rfl; omega
  by_cases c67 : x0 = (163 : Int32)
  · have h := ok_t h c67
    refine lv_tableIn (off := 672) (tgt := 673) hx hb d_De_formOfSingle_1 (by rw [c67]; decide) (by rw [c67]; decide) (by rw [c67]; rfl) (by decide) ?_
    exact w_De_formOfSingle_673 o C0 q h H locs ls hw (lv_sub hl [] rfl)
  have h := ok_f h c67
  have u0 : (164 : Int) ≤ x0.toInt := by have z := lv_neT c67 (a := 163) rfl; omega
  by_cases c68 : x0 = (164 : Int32)
  · have h := ok_t h c68
    refine lv_tableIn (off := 643) (tgt := 644) hx hb d_De_formOfSingle_1 (by rw [c68]; decide) (by rw [c68]; decide) (by rw [c68]; rfl) (by decide) ?_
    exact w_De_formOfSingle_644 o C0 q h H locs ls hw (lv_sub hl [] rfl)
  have h := ok_f h c68
  have u0 : (165 : Int) ≤ x0.toInt := by have z := lv_neT c68 (a := 164) rfl; omega
  by_cases c69 : x0 = (165 : Int32)
  · have h := ok_t h c69
    refine lv_tableIn (off := 643) (tgt := 644) hx hb d_De_formOfSingle_1 (by rw [c69]; decide) (by rw [c69]; decide) (by rw [c69]; rfl) (by decide) ?_
    exact w_De_formOfSingle_644 o C0 q h H locs ls hw (lv_sub hl [] rfl)
  have h := ok_f h c69
  have u0 : (166 : Int) ≤ x0.toInt := by have z := lv_neT c69 (a := 165) rfl; omega
  by_cases c70 : x0 = (166 : Int32)
  · have h := ok_t h c70
    refine lv_tableIn (off := 643) (tgt := 644) hx hb d_De_formOfSingle_1 (by rw [c70]; decide) (by rw [c70]; decide) (by rw [c70]; rfl) (by decide) ?_
    exact w_De_formOfSingle_644 o C0 q h H locs ls hw (lv_sub hl [] rfl)
  have h := ok_f h c70
  have u0 : (167 : Int) ≤ x0.toInt := by have z := lv_neT c70 (a := 166) rfl; omega
  by_cases c71 : x0 = (167 : Int32)
  · have h := ok_t h c71
    refine lv_tableIn (off := 643) (tgt := 644) hx hb d_De_formOfSingle_1 (by rw [c71]; decide) (by rw [c71]; decide) (by rw [c71]; rfl) (by decide) ?_
    exact w_De_formOfSingle_644 o C0 q h H locs ls hw (lv_sub hl [] rfl)
  have h := ok_f h c71
  have u0 : (168 : Int) ≤ x0.toInt := by have z := lv_neT c71 (a := 167) rfl; omega
  by_cases c72 : x0 = (168 : Int32)
  · have h := ok_t h c72
    refine lv_tableIn (off := 647) (tgt := 648) hx hb d_De_formOfSingle_1 (by rw [c72]; decide) (by rw [c72]; decide) (by rw [c72]; rfl) (by decide) ?_
    exact w_De_formOfSingle_648 o C0 q h H locs ls hw (lv_sub hl [] rfl)
  have h := ok_f h c72
  have u0 : (169 : Int) ≤ x0.toInt := by have z := lv_neT c72 (a := 168) rfl; omega
  by_cases c73 : x0 = (169 : Int32)
  · have h := ok_t h c73
    refine lv_tableIn (off := 650) (tgt := 651) hx hb d_De_formOfSingle_1 (by rw [c73]; decide) (by rw [c73]; decide) (by rw [c73]; rfl) (by decide) ?_
    exact w_De_formOfSingle_651 o C0 q h H locs ls hw (lv_sub hl [] rfl)
  have h := ok_f h c73
  have u0 : (170 : Int) ≤ x0.toInt := by have z := lv_neT c73 (a := 169) rfl; omega
  by_cases c74 : x0 = (170 : Int32)
  · have h := ok_t h c74
    refine lv_tableIn (off := 643) (tgt := 644) hx hb d_De_formOfSingle_1 (by rw [c74]; decide) (by rw [c74]; decide) (by rw [c74]; rfl) (by decide) ?_
    exact w_De_formOfSingle_644 o C0 q h H locs ls hw (lv_sub hl [] rfl)
  have h := ok_f h c74
  have u0 : (171 : Int) ≤ x0.toInt := by have z := lv_neT c74 (a := 170) rfl; omega
  by_cases c75 : x0 = (171 : Int32)
  · have h := ok_t h c75
    refine lv_tableIn (off := 643) (tgt := 644) hx hb d_De_formOfSingle_1 (by rw [c75]; decide) (by rw [c75]; decide) (by rw [c75]; rfl) (by decide) ?_
    exact w_De_formOfSingle_644 o C0 q h H locs ls hw (lv_sub hl [] rfl)
  have h := ok_f h c75
  have u0 : (172 : Int) ≤ x0.toInt := by have z := lv_neT c75 (a := 171) rfl; omega
  by_cases c76 : x0 = (172 : Int32)
  · have h := ok_t h c76
    refine lv_tableIn (off := 643) (tgt := 644) hx hb d_De_formOfSingle_1 (by rw [c76]; decide) (by rw [c76]; decide) (by rw [c76]; rfl) (by decide) ?_
    exact w_De_formOfSingle_644 o C0 q h H locs ls hw (lv_sub hl [] rfl)
  have h := ok_f h c76
  have u0 : (173 : Int) ≤ x0.toInt := by have z := lv_neT c76 (a := 172) rfl; omega
  by_cases c77 : x0 = (173 : Int32)
  · have h := ok_t h c77
    refine lv_tableIn (off := 643) (tgt := 644) hx hb d_De_formOfSingle_1 (by rw [c77]; decide) (by rw [c77]; decide) (by rw [c77]; rfl) (by decide) ?_
    exact w_De_formOfSingle_644 o C0 q h H locs ls hw (lv_sub hl [] rfl)
  have h := ok_f h c77
  have u0 : (174 : Int) ≤ x0.toInt := by have z := lv_neT c77 (a := 173) rfl; omega
  by_cases c78 : x0 = (174 : Int32)
  · have h := ok_t h c78
    refine lv_tableIn (off := 643) (tgt := 644) hx hb d_De_formOfSingle_1 (by rw [c78]; decide) (by rw [c78]; decide) (by rw [c78]; rfl) (by decide) ?_
    exact w_De_formOfSingle_644 o C0 q h H locs ls hw (lv_sub hl [] rfl)
  have h := ok_f h c78
  have u0 : (175 : Int) ≤ x0.toInt := by have z := lv_neT c78 (a := 174) rfl; omega
  by_cases c79 : x0 = (175 : Int32)
  · have h := ok_t h c79
    refine lv_tableIn (off := 643) (tgt := 644) hx hb d_De_formOfSingle_1 (by rw [c79]; decide) (by rw [c79]; decide) (by rw [c79]; rfl) (by decide) ?_
    exact w_De_formOfSingle_644 o C0 q h H locs ls hw (lv_sub hl [] rfl)
  have h := ok_f h c79
  have u0 : (176 : Int) ≤ x0.toInt := by have z := lv_neT c79 (a := 175) rfl; omega
  by_cases c80 : x0 = (176 : Int32)
  · have h := ok_t h c80
    refine lv_tableIn (off := 672) (tgt := 673) hx hb d_De_formOfSingle_1 (by rw [c80]; decide) (by rw [c80]; decide) (by rw [c80]; rfl) (by decide) ?_
    exact w_De_formOfSingle_673 o C0 q h H locs ls hw (lv_sub hl [] rfl)
  have h := ok_f h c80
  have u0 : (177 : Int) ≤ x0.toInt := by have z := lv_neT c80 (a := 176) rfl; omega
  by_cases c81 : x0 = (177 : Int32)
  · have h := ok_t h c81
    refine lv_tableIn (off := 672) (tgt := 673) hx hb d_De_formOfSingle_1 (by rw [c81]; decide) (by rw [c81]; decide) (by rw [c81]; rfl) (by decide) ?_
    exact w_De_formOfSingle_673 o C0 q h H locs ls hw (lv_sub hl [] rfl)
  have h := ok_f h c81
  have u0 : (178 : Int) ≤ x0.toInt := by have z := lv_neT c81 (a := 177) rfl; omega
  by_cases c82 : x0 = (178 : Int32)
  · have h := ok_t h c82
    refine lv_tableIn (off := 672) (tgt := 673) hx hb d_De_formOfSingle_1 (by rw [c82]; decide) (by rw [c82]; decide) (by rw [c82]; rfl) (by decide) ?_
    exact w_De_formOfSingle_673 o C0 q h H locs ls hw (lv_sub hl [] rfl)
  have h := ok_f h c82
  have u0 : (179 : Int) ≤ x0.toInt := by have z := lv_neT c82 (a := 178) rfl; omega
  by_cases c83 : x0 = (179 : Int32)
  · have h := ok_t h c83
    refine lv_tableIn (off := 672) (tgt := 673) hx hb d_De_formOfSingle_1 (by rw [c83]; decide) (by rw [c83]; decide) (by rw [c83]; rfl) (by decide) ?_
    exact w_De_formOfSingle_673 o C0 q h H locs ls hw (lv_sub hl [] rfl)
  have h := ok_f h c83
  have u0 : (180 : Int) ≤ x0.toInt := by have z := lv_neT c83 (a := 179) rfl; omega
  by_cases c84 : x0 = (180 : Int32)
  · have h := ok_t h c84
    refine lv_tableIn (off := 672) (tgt := 673) hx hb d_De_formOfSingle_1 (by rw [c84]; decide) (by rw [c84]; decide) (by rw [c84]; rfl) (by decide) ?_
    exact w_De_formOfSingle_673 o C0 q h H locs ls hw (lv_sub hl [] rfl)
  have h := ok_f h c84
  have u0 : (181 : Int) ≤ x0.toInt := by have z := lv_neT c84 (a := 180) rfl; omega
  by_cases c85 : x0 = (181 : Int32)
  · have h := ok_t h c85
    refine lv_tableIn (off := 672) (tgt := 673) hx hb d_De_formOfSingle_1 (by rw [c85]; decide) (by rw [c85]; decide) (by rw [c85]; rfl) (by decide) ?_
    exact w_De_formOfSingle_673 o C0 q h H locs ls hw (lv_sub hl [] rfl)
  have h := ok_f h c85
  have u0 : (182 : Int) ≤ x0.toInt := by have z := lv_neT c85 (a := 181) rfl; omega
  by_cases c86 : x0 = (182 : Int32)
  · have h := ok_t h c86
    refine lv_tableIn (off := 672) (tgt := 673) hx hb d_De_formOfSingle_1 (by rw [c86]; decide) (by rw [c86]; decide) (by rw [c86]; rfl) (by decide) ?_
    exact w_De_formOfSingle_673 o C0 q h H locs ls hw (lv_sub hl [] rfl)
  have h := ok_f h c86
  have u0 : (183 : Int) ≤ x0.toInt := by have z := lv_neT c86 (a := 182) rfl; omega
  by_cases c87 : x0 = (183 : Int32)
  · have h := ok_t h c87
    refine lv_tableIn (off := 672) (tgt := 673) hx hb d_De_formOfSingle_1 (by rw [c87]; decide) (by rw [c87]; decide) (by rw [c87]; rfl) (by decide) ?_
    exact w_De_formOfSingle_673 o C0 q h H locs ls hw (lv_sub hl [] rfl)
  have h := ok_f h c87
  have u0 : (184 : Int) ≤ x0.toInt := by have z := lv_neT c87 (a := 183) rfl; omega
  by_cases c88 : x0 = (184 : Int32)
  · have h := ok_t h c88
    refine lv_tableIn (off := 672) (tgt := 673) hx hb d_De_formOfSingle_1 (by rw [c88]; decide) (by rw [c88]; decide) (by rw [c88]; rfl) (by decide) ?_
    exact w_De_formOfSingle_673 o C0 q h H locs ls hw (lv_sub hl [] rfl)
  have h := ok_f h c88
  have u0 : (185 : Int) ≤ x0.toInt := by have z := lv_neT c88 (a := 184) rfl; omega
  by_cases c89 : x0 = (185 : Int32)
  · have h := ok_t h c89
    refine lv_tableIn (off := 672) (tgt := 673) hx hb d_De_formOfSingle_1 (by rw [c89]; decide) (by rw [c89]; decide) (by rw [c89]; rfl) (by decide) ?_
    exact w_De_formOfSingle_673 o C0 q h H locs ls hw (lv_sub hl [] rfl)
  have h := ok_f h c89
  have u0 : (186 : Int) ≤ x0.toInt := by have z := lv_neT c89 (a := 185) rfl; omega
  by_cases c90 : x0 = (186 : Int32)
  · have h := ok_t h c90
    refine lv_tableIn (off := 672) (tgt := 673) hx hb d_De_formOfSingle_1 (by rw [c90]; decide) (by rw [c90]; decide) (by rw [c90]; rfl) (by decide) ?_
    exact w_De_formOfSingle_673 o C0 q h H locs ls hw (lv_sub hl [] rfl)
  have h := ok_f h c90
  have u0 : (187 : Int) ≤ x0.toInt := by have z := lv_neT c90 (a := 186) rfl; omega
  by_cases c91 : x0 = (187 : Int32)
  · have h := ok_t h c91
    refine lv_tableIn (off := 672) (tgt := 673) hx hb d_De_formOfSingle_1 (by rw [c91]; decide) (by rw [c91]; decide) (by rw [c91]; rfl) (by decide) ?_
    exact w_De_formOfSingle_673 o C0 q h H locs ls hw (lv_sub hl [] rfl)
  have h := ok_f h c91
  have u0 : (188 : Int) ≤ x0.toInt := by have z := lv_neT c91 (a := 187) rfl; omega
  by_cases c92 : x0 = (188 : Int32)
  · have h := ok_t h c92
    refine lv_tableIn (off := 672) (tgt := 673) hx hb d_De_formOfSingle_1 (by rw [c92]; decide) (by rw [c92]; decide) (by rw [c92]; rfl) (by decide) ?_
    exact w_De_formOfSingle_673 o C0 q h H locs ls hw (lv_sub hl [] rfl)
  have h := ok_f h c92
  have u0 : (189 : Int) ≤ x0.toInt := by have z := lv_neT c92 (a := 188) rfl; omega
  by_cases c93 : x0 = (189 : Int32)
  · have h := ok_t h c93
    refine lv_tableIn (off := 672) (tgt := 673) hx hb d_De_formOfSingle_1 (by rw [c93]; decide) (by rw [c93]; decide) (by rw [c93]; rfl) (by decide) ?_
    exact w_De_formOfSingle_673 o C0 q h H locs ls hw (lv_sub hl [] rfl)
  have h := ok_f h c93
  have u0 : (190 : Int) ≤ x0.toInt := by have z := lv_neT c93 (a := 189) rfl; omega
  by_cases c94 : x0 = (190 : Int32)
  · have h := ok_t h c94
    refine lv_tableIn (off := 672) (tgt := 673) hx hb d_De_formOfSingle_1 (by rw [c94]; decide) (by rw [c94]; decide) (by rw [c94]; rfl) (by decide) ?_
    exact w_De_formOfSingle_673 o C0 q h H locs ls hw (lv_sub hl [] rfl)
  have h := ok_f h c94
  have u0 : (191 : Int) ≤ x0.toInt := by have z := lv_neT c94 (a := 190) rfl; omega
  by_cases c95 : x0 = (191 : Int32)
  · have h := ok_t h c95
    refine lv_tableIn (off := 672) (tgt := 673) hx hb d_De_formOfSingle_1 (by rw [c95]; decide) (by rw [c95]; decide) (by rw [c95]; rfl) (by decide) ?_
    exact w_De_formOfSingle_673 o C0 q h H locs ls hw (lv_sub hl [] rfl)
  have h := ok_f h c95
  have u0 : (192 : Int) ≤ x0.toInt := by have z := lv_neT c95 (a := 191) rfl; omega
  by_cases c96 : x0 = (192 : Int32)
  · have h := ok_t h c96
    refine lv_tableIn (off := 654) (tgt := 655) hx hb d_De_formOfSingle_1 (by rw [c96]; decide) (by rw [c96]; decide) (by rw [c96]; rfl) (by decide) ?_
    exact w_De_formOfSingle_655 o C0 q h H locs ls hw (lv_sub hl [] rfl)
  have h := ok_f h c96
  have u0 : (193 : Int) ≤ x0.toInt := by have z := lv_neT c96 (a := 192) rfl; omega
  by_cases c97 : x0 = (193 : Int32)
  · have h := ok_t h c97
    refine lv_tableIn (off := 654) (tgt := 655) hx hb d_De_formOfSingle_1 (by rw [c97]; decide) (by rw [c97]; decide) (by rw [c97]; rfl) (by decide) ?_
    exact w_De_formOfSingle_655 o C0 q h H locs ls hw (lv_sub hl [] rfl)
  have h := ok_f h c97
  have u0 : (194 : Int) ≤ x0.toInt := by have z := lv_neT c97 (a := 193) rfl; omega
  by_cases c98 : x0 = (194 : Int32)
  · have h := ok_t h c98
    refine lv_tableIn (off := 663) (tgt := 664) hx hb d_De_formOfSingle_1 (by rw [c98]; decide) (by rw [c98]; decide) (by rw [c98]; rfl) (by decide) ?_
    refine lv_bipush (v := (20 : Int32)) hx hb d_De_formOfSingle_664 (by decide) ?_
    have ho := Option.some.inj h
    subst ho
    exact z_rti C0 hw d_De_formOfSingle_666
  have h := ok_f h c98
  have u0 : (195 : Int) ≤ x0.toInt := by have z := lv_neT c98 (a := 194) rfl; omega
  by_cases c99 : x0 = (195 : Int32)
  · have h := ok_t h c99
    refine lv_tableIn (off := 661) (tgt := 662) hx hb d_De_formOfSingle_1 (by rw [c99]; decide) (by rw [c99]; decide) (by rw [c99]; rfl) (by decide) ?_
    exact w_De_formOfSingle_662 o C0 q h H locs ls hw (lv_sub hl [] rfl)
  have h := ok_f h c99
  have u0 : (196 : Int) ≤ x0.toInt := by have z := lv_neT c99 (a := 195) rfl; omega
  by_cases c100 : x0 = (196 : Int32)
  · have h := ok_t h c100
    refine lv_tableIn (off := 672) (tgt := 673) hx hb d_De_formOfSingle_1 (by rw [c100]; decide) (by rw [c100]; decide) (by rw [c100]; rfl) (by decide) ?_
    exact w_De_formOfSingle_673 o C0 q h H locs ls hw (lv_sub hl [] rfl)
  have h := ok_f h c100
  have u0 : (197 : Int) ≤ x0.toInt := by have z := lv_neT c100 (a := 196) rfl; omega
  by_cases c101 : x0 = (197 : Int32)
  · have h := ok_t h c101
    refine lv_tableIn (off := 672) (tgt := 673) hx hb d_De_formOfSingle_1 (by rw [c101]; decide) (by rw [c101]; decide) (by rw [c101]; rfl) (by decide) ?_
    exact w_De_formOfSingle_673 o C0 q h H locs ls hw (lv_sub hl [] rfl)
  have h := ok_f h c101
  have u0 : (198 : Int) ≤ x0.toInt := by have z := lv_neT c101 (a := 197) rfl; omega
  by_cases c102 : x0 = (198 : Int32)
  · have h := ok_t h c102
    refine lv_tableIn (off := 654) (tgt := 655) hx hb d_De_formOfSingle_1 (by rw [c102]; decide) (by rw [c102]; decide) (by rw [c102]; rfl) (by decide) ?_
    exact w_De_formOfSingle_655 o C0 q h H locs ls hw (lv_sub hl [] rfl)
  have h := ok_f h c102
  have u0 : (199 : Int) ≤ x0.toInt := by have z := lv_neT c102 (a := 198) rfl; omega
  by_cases c103 : x0 = (199 : Int32)
  · have h := ok_t h c103
    refine lv_tableIn (off := 657) (tgt := 658) hx hb d_De_formOfSingle_1 (by rw [c103]; decide) (by rw [c103]; decide) (by rw [c103]; rfl) (by decide) ?_
    exact w_De_formOfSingle_658 o C0 q h H locs ls hw (lv_sub hl [] rfl)
  have h := ok_f h c103
  have u0 : (200 : Int) ≤ x0.toInt := by have z := lv_neT c103 (a := 199) rfl; omega
  by_cases c104 : x0 = (200 : Int32)
  · have h := ok_t h c104
    refine lv_tableIn (off := 672) (tgt := 673) hx hb d_De_formOfSingle_1 (by rw [c104]; decide) (by rw [c104]; decide) (by rw [c104]; rfl) (by decide) ?_
    exact w_De_formOfSingle_673 o C0 q h H locs ls hw (lv_sub hl [] rfl)
  have h := ok_f h c104
  have u0 : (201 : Int) ≤ x0.toInt := by have z := lv_neT c104 (a := 200) rfl; omega
  by_cases c105 : x0 = (201 : Int32)
  · have h := ok_t h c105
    refine lv_tableIn (off := 661) (tgt := 662) hx hb d_De_formOfSingle_1 (by rw [c105]; decide) (by rw [c105]; decide) (by rw [c105]; rfl) (by decide) ?_
    exact w_De_formOfSingle_662 o C0 q h H locs ls hw (lv_sub hl [] rfl)
  have h := ok_f h c105
  have u0 : (202 : Int) ≤ x0.toInt := by have z := lv_neT c105 (a := 201) rfl; omega
  by_cases c106 : x0 = (202 : Int32)
  · have h := ok_t h c106
    refine lv_tableIn (off := 672) (tgt := 673) hx hb d_De_formOfSingle_1 (by rw [c106]; decide) (by rw [c106]; decide) (by rw [c106]; rfl) (by decide) ?_
    exact w_De_formOfSingle_673 o C0 q h H locs ls hw (lv_sub hl [] rfl)
  have h := ok_f h c106
  have u0 : (203 : Int) ≤ x0.toInt := by have z := lv_neT c106 (a := 202) rfl; omega
  by_cases c107 : x0 = (203 : Int32)
  · have h := ok_t h c107
    refine lv_tableIn (off := 672) (tgt := 673) hx hb d_De_formOfSingle_1 (by rw [c107]; decide) (by rw [c107]; decide) (by rw [c107]; rfl) (by decide) ?_
    exact w_De_formOfSingle_673 o C0 q h H locs ls hw (lv_sub hl [] rfl)
  have h := ok_f h c107
  have u0 : (204 : Int) ≤ x0.toInt := by have z := lv_neT c107 (a := 203) rfl; omega
  by_cases c108 : x0 = (204 : Int32)
  · have h := ok_t h c108
    refine lv_tableIn (off := 672) (tgt := 673) hx hb d_De_formOfSingle_1 (by rw [c108]; decide) (by rw [c108]; decide) (by rw [c108]; rfl) (by decide) ?_
    exact w_De_formOfSingle_673 o C0 q h H locs ls hw (lv_sub hl [] rfl)
  have h := ok_f h c108
  have u0 : (205 : Int) ≤ x0.toInt := by have z := lv_neT c108 (a := 204) rfl; omega
  by_cases c109 : x0 = (205 : Int32)
  · have h := ok_t h c109
    refine lv_tableIn (off := 672) (tgt := 673) hx hb d_De_formOfSingle_1 (by rw [c109]; decide) (by rw [c109]; decide) (by rw [c109]; rfl) (by decide) ?_
    exact w_De_formOfSingle_673 o C0 q h H locs ls hw (lv_sub hl [] rfl)
  have h := ok_f h c109
  have u0 : (206 : Int) ≤ x0.toInt := by have z := lv_neT c109 (a := 205) rfl; omega
  by_cases c110 : x0 = (206 : Int32)
  · have h := ok_t h c110
    refine lv_tableIn (off := 672) (tgt := 673) hx hb d_De_formOfSingle_1 (by rw [c110]; decide) (by rw [c110]; decide) (by rw [c110]; rfl) (by decide) ?_
    exact w_De_formOfSingle_673 o C0 q h H locs ls hw (lv_sub hl [] rfl)
  have h := ok_f h c110
  have u0 : (207 : Int) ≤ x0.toInt := by have z := lv_neT c110 (a := 206) rfl; omega
  by_cases c111 : x0 = (207 : Int32)
  · have h := ok_t h c111
    refine lv_tableIn (off := 672) (tgt := 673) hx hb d_De_formOfSingle_1 (by rw [c111]; decide) (by rw [c111]; decide) (by rw [c111]; rfl) (by decide) ?_
    exact w_De_formOfSingle_673 o C0 q h H locs ls hw (lv_sub hl [] rfl)
  have h := ok_f h c111
  have u0 : (208 : Int) ≤ x0.toInt := by have z := lv_neT c111 (a := 207) rfl; omega
  by_cases c112 : x0 = (208 : Int32)
  · have h := ok_t h c112
    refine lv_tableIn (off := 645) (tgt := 646) hx hb d_De_formOfSingle_1 (by rw [c112]; decide) (by rw [c112]; decide) (by rw [c112]; rfl) (by decide) ?_
    exact w_De_formOfSingle_646 o C0 q h H locs ls hw (lv_sub hl [] rfl)
  have h := ok_f h c112
  have u0 : (209 : Int) ≤ x0.toInt := by have z := lv_neT c112 (a := 208) rfl; omega
  by_cases c113 : x0 = (209 : Int32)
  · have h := ok_t h c113
    refine lv_tableIn (off := 645) (tgt := 646) hx hb d_De_formOfSingle_1 (by rw [c113]; decide) (by rw [c113]; decide) (by rw [c113]; rfl) (by decide) ?_
    exact w_De_formOfSingle_646 o C0 q h H locs ls hw (lv_sub hl [] rfl)
  have h := ok_f h c113
  have u0 : (210 : Int) ≤ x0.toInt := by have z := lv_neT c113 (a := 209) rfl; omega
  by_cases c114 : x0 = (210 : Int32)
  · have h := ok_t h c114
    refine lv_tableIn (off := 645) (tgt := 646) hx hb d_De_formOfSingle_1 (by rw [c114]; decide) (by rw [c114]; decide) (by rw [c114]; rfl) (by decide) ?_
    exact w_De_formOfSingle_646 o C0 q h H locs ls hw (lv_sub hl [] rfl)
  have h := ok_f h c114
  have u0 : (211 : Int) ≤ x0.toInt := by have z := lv_neT c114 (a := 210) rfl; omega
  by_cases c115 : x0 = (211 : Int32)
  · have h := ok_t h c115
    refine lv_tableIn (off := 645) (tgt := 646) hx hb d_De_formOfSingle_1 (by rw [c115]; decide) (by rw [c115]; decide) (by rw [c115]; rfl) (by decide) ?_
    exact w_De_formOfSingle_646 o C0 q h H locs ls hw (lv_sub hl [] rfl)
  have h := ok_f h c115
  have u0 : (212 : Int) ≤ x0.toInt := by have z := lv_neT c115 (a := 211) rfl; omega
  by_cases c116 : x0 = (212 : Int32)
  · have h := ok_t h c116
    refine lv_tableIn (off := 672) (tgt := 673) hx hb d_De_formOfSingle_1 (by rw [c116]; decide) (by rw [c116]; decide) (by rw [c116]; rfl) (by decide) ?_
    exact w_De_formOfSingle_673 o C0 q h H locs ls hw (lv_sub hl [] rfl)
  have h := ok_f h c116
  have u0 : (213 : Int) ≤ x0.toInt := by have z := lv_neT c116 (a := 212) rfl; omega
  by_cases c117 : x0 = (213 : Int32)
  · have h := ok_t h c117
    refine lv_tableIn (off := 672) (tgt := 673) hx hb d_De_formOfSingle_1 (by rw [c117]; decide) (by rw [c117]; decide) (by rw [c117]; rfl) (by decide) ?_
    exact w_De_formOfSingle_673 o C0 q h H locs ls hw (lv_sub hl [] rfl)
  have h := ok_f h c117
  have u0 : (214 : Int) ≤ x0.toInt := by have z := lv_neT c117 (a := 213) rfl; omega
  by_cases c118 : x0 = (214 : Int32)
  · have h := ok_t h c118
    refine lv_tableIn (off := 672) (tgt := 673) hx hb d_De_formOfSingle_1 (by rw [c118]; decide) (by rw [c118]; decide) (by rw [c118]; rfl) (by decide) ?_
    exact w_De_formOfSingle_673 o C0 q h H locs ls hw (lv_sub hl [] rfl)
  have h := ok_f h c118
  have u0 : (215 : Int) ≤ x0.toInt := by have z := lv_neT c118 (a := 214) rfl; omega
  by_cases c119 : x0 = (215 : Int32)
  · have h := ok_t h c119
    refine lv_tableIn (off := 672) (tgt := 673) hx hb d_De_formOfSingle_1 (by rw [c119]; decide) (by rw [c119]; decide) (by rw [c119]; rfl) (by decide) ?_
    exact w_De_formOfSingle_673 o C0 q h H locs ls hw (lv_sub hl [] rfl)
  have h := ok_f h c119
  have u0 : (216 : Int) ≤ x0.toInt := by have z := lv_neT c119 (a := 215) rfl; omega
  by_cases c120 : x0 = (216 : Int32)
  · have h := ok_t h c120
    refine lv_tableIn (off := 672) (tgt := 673) hx hb d_De_formOfSingle_1 (by rw [c120]; decide) (by rw [c120]; decide) (by rw [c120]; rfl) (by decide) ?_
    exact w_De_formOfSingle_673 o C0 q h H locs ls hw (lv_sub hl [] rfl)
  have h := ok_f h c120
  have u0 : (217 : Int) ≤ x0.toInt := by have z := lv_neT c120 (a := 216) rfl; omega
  by_cases c121 : x0 = (217 : Int32)
  · have h := ok_t h c121
    refine lv_tableIn (off := 672) (tgt := 673) hx hb d_De_formOfSingle_1 (by rw [c121]; decide) (by rw [c121]; decide) (by rw [c121]; rfl) (by decide) ?_
    exact w_De_formOfSingle_673 o C0 q h H locs ls hw (lv_sub hl [] rfl)
  have h := ok_f h c121
  have u0 : (218 : Int) ≤ x0.toInt := by have z := lv_neT c121 (a := 217) rfl; omega
  by_cases c122 : x0 = (218 : Int32)
  · have h := ok_t h c122
    refine lv_tableIn (off := 672) (tgt := 673) hx hb d_De_formOfSingle_1 (by rw [c122]; decide) (by rw [c122]; decide) (by rw [c122]; rfl) (by decide) ?_
    exact w_De_formOfSingle_673 o C0 q h H locs ls hw (lv_sub hl [] rfl)
  have h := ok_f h c122
  have u0 : (219 : Int) ≤ x0.toInt := by have z := lv_neT c122 (a := 218) rfl; omega
  by_cases c123 : x0 = (219 : Int32)
  · have h := ok_t h c123
    refine lv_tableIn (off := 672) (tgt := 673) hx hb d_De_formOfSingle_1 (by rw [c123]; decide) (by rw [c123]; decide) (by rw [c123]; rfl) (by decide) ?_
    exact w_De_formOfSingle_673 o C0 q h H locs ls hw (lv_sub hl [] rfl)
  have h := ok_f h c123
  have u0 : (220 : Int) ≤ x0.toInt := by have z := lv_neT c123 (a := 219) rfl; omega
  by_cases c124 : x0 = (220 : Int32)
  · have h := ok_t h c124
    refine lv_tableIn (off := 672) (tgt := 673) hx hb d_De_formOfSingle_1 (by rw [c124]; decide) (by rw [c124]; decide) (by rw [c124]; rfl) (by decide) ?_
    exact w_De_formOfSingle_673 o C0 q h H locs ls hw (lv_sub hl [] rfl)
  have h := ok_f h c124
  have u0 : (221 : Int) ≤ x0.toInt := by have z := lv_neT c124 (a := 220) rfl; omega
  by_cases c125 : x0 = (221 : Int32)
  · have h := ok_t h c125
    refine lv_tableIn (off := 672) (tgt := 673) hx hb d_De_formOfSingle_1 (by rw [c125]; decide) (by rw [c125]; decide) (by rw [c125]; rfl) (by decide) ?_
    exact w_De_formOfSingle_673 o C0 q h H locs ls hw (lv_sub hl [] rfl)
  have h := ok_f h c125
  have u0 : (222 : Int) ≤ x0.toInt := by have z := lv_neT c125 (a := 221) rfl; omega
  by_cases c126 : x0 = (222 : Int32)
  · have h := ok_t h c126
    refine lv_tableIn (off := 672) (tgt := 673) hx hb d_De_formOfSingle_1 (by rw [c126]; decide) (by rw [c126]; decide) (by rw [c126]; rfl) (by decide) ?_
    exact w_De_formOfSingle_673 o C0 q h H locs ls hw (lv_sub hl [] rfl)
  have h := ok_f h c126
  have u0 : (223 : Int) ≤ x0.toInt := by have z := lv_neT c126 (a := 222) rfl; omega
  by_cases c127 : x0 = (223 : Int32)
  · have h := ok_t h c127
    refine lv_tableIn (off := 672) (tgt := 673) hx hb d_De_formOfSingle_1 (by rw [c127]; decide) (by rw [c127]; decide) (by rw [c127]; rfl) (by decide) ?_
    exact w_De_formOfSingle_673 o C0 q h H locs ls hw (lv_sub hl [] rfl)
  have h := ok_f h c127
  have u0 : (224 : Int) ≤ x0.toInt := by have z := lv_neT c127 (a := 223) rfl; omega
  by_cases c128 : x0 = (224 : Int32)
  · have h := ok_t h c128
    refine lv_tableIn (off := 666) (tgt := 667) hx hb d_De_formOfSingle_1 (by rw [c128]; decide) (by rw [c128]; decide) (by rw [c128]; rfl) (by decide) ?_
    exact w_De_formOfSingle_667 o C0 q h H locs ls hw (lv_sub hl [] rfl)
  have h := ok_f h c128
  have u0 : (225 : Int) ≤ x0.toInt := by have z := lv_neT c128 (a := 224) rfl; omega
  by_cases c129 : x0 = (225 : Int32)
  · have h := ok_t h c129
    refine lv_tableIn (off := 666) (tgt := 667) hx hb d_De_formOfSingle_1 (by rw [c129]; decide) (by rw [c129]; decide) (by rw [c129]; rfl) (by decide) ?_
    exact w_De_formOfSingle_667 o C0 q h H locs ls hw (lv_sub hl [] rfl)
  have h := ok_f h c129
  have u0 : (226 : Int) ≤ x0.toInt := by have z := lv_neT c129 (a := 225) rfl; omega
  by_cases c130 : x0 = (226 : Int32)
  · have h := ok_t h c130
    refine lv_tableIn (off := 666) (tgt := 667) hx hb d_De_formOfSingle_1 (by rw [c130]; decide) (by rw [c130]; decide) (by rw [c130]; rfl) (by decide) ?_
    exact w_De_formOfSingle_667 o C0 q h H locs ls hw (lv_sub hl [] rfl)
  have h := ok_f h c130
  have u0 : (227 : Int) ≤ x0.toInt := by have z := lv_neT c130 (a := 226) rfl; omega
  by_cases c131 : x0 = (227 : Int32)
  · have h := ok_t h c131
    refine lv_tableIn (off := 666) (tgt := 667) hx hb d_De_formOfSingle_1 (by rw [c131]; decide) (by rw [c131]; decide) (by rw [c131]; rfl) (by decide) ?_
    exact w_De_formOfSingle_667 o C0 q h H locs ls hw (lv_sub hl [] rfl)
  have h := ok_f h c131
  have u0 : (228 : Int) ≤ x0.toInt := by have z := lv_neT c131 (a := 227) rfl; omega
  by_cases c132 : x0 = (228 : Int32)
  · have h := ok_t h c132
    refine lv_tableIn (off := 672) (tgt := 673) hx hb d_De_formOfSingle_1 (by rw [c132]; decide) (by rw [c132]; decide) (by rw [c132]; rfl) (by decide) ?_
    exact w_De_formOfSingle_673 o C0 q h H locs ls hw (lv_sub hl [] rfl)
  have h := ok_f h c132
  have u0 : (229 : Int) ≤ x0.toInt := by have z := lv_neT c132 (a := 228) rfl; omega
  by_cases c133 : x0 = (229 : Int32)
  · have h := ok_t h c133
    refine lv_tableIn (off := 672) (tgt := 673) hx hb d_De_formOfSingle_1 (by rw [c133]; decide) (by rw [c133]; decide) (by rw [c133]; rfl) (by decide) ?_
    exact w_De_formOfSingle_673 o C0 q h H locs ls hw (lv_sub hl [] rfl)
  have h := ok_f h c133
  have u0 : (230 : Int) ≤ x0.toInt := by have z := lv_neT c133 (a := 229) rfl; omega
  by_cases c134 : x0 = (230 : Int32)
  · have h := ok_t h c134
    refine lv_tableIn (off := 672) (tgt := 673) hx hb d_De_formOfSingle_1 (by rw [c134]; decide) (by rw [c134]; decide) (by rw [c134]; rfl) (by decide) ?_
    exact w_De_formOfSingle_673 o C0 q h H locs ls hw (lv_sub hl [] rfl)
  have h := ok_f h c134
  have u0 : (231 : Int) ≤ x0.toInt := by have z := lv_neT c134 (a := 230) rfl; omega
  by_cases c135 : x0 = (231 : Int32)
  · have h := ok_t h c135
    refine lv_tableIn (off := 672) (tgt := 673) hx hb d_De_formOfSingle_1 (by rw [c135]; decide) (by rw [c135]; decide) (by rw [c135]; rfl) (by decide) ?_
    exact w_De_formOfSingle_673 o C0 q h H locs ls hw (lv_sub hl [] rfl)
  have h := ok_f h c135
  have u0 : (232 : Int) ≤ x0.toInt := by have z := lv_neT c135 (a := 231) rfl; omega
  by_cases c136 : x0 = (232 : Int32)
  · have h := ok_t h c136
    refine lv_tableIn (off := 669) (tgt := 670) hx hb d_De_formOfSingle_1 (by rw [c136]; decide) (by rw [c136]; decide) (by rw [c136]; rfl) (by decide) ?_
    exact w_De_formOfSingle_670 o C0 q h H locs ls hw (lv_sub hl [] rfl)
  have h := ok_f h c136
  have u0 : (233 : Int) ≤ x0.toInt := by have z := lv_neT c136 (a := 232) rfl; omega
  by_cases c137 : x0 = (233 : Int32)
  · have h := ok_t h c137
    refine lv_tableIn (off := 669) (tgt := 670) hx hb d_De_formOfSingle_1 (by rw [c137]; decide) (by rw [c137]; decide) (by rw [c137]; rfl) (by decide) ?_
    exact w_De_formOfSingle_670 o C0 q h H locs ls hw (lv_sub hl [] rfl)
  have h := ok_f h c137
  have u0 : (234 : Int) ≤ x0.toInt := by have z := lv_neT c137 (a := 233) rfl; omega
  by_cases c138 : x0 = (234 : Int32)
  · have h := ok_t h c138
    refine lv_tableIn (off := 672) (tgt := 673) hx hb d_De_formOfSingle_1 (by rw [c138]; decide) (by rw [c138]; decide) (by rw [c138]; rfl) (by decide) ?_
    exact w_De_formOfSingle_673 o C0 q h H locs ls hw (lv_sub hl [] rfl)
  have h := ok_f h c138
  have u0 : (235 : Int) ≤ x0.toInt := by have z := lv_neT c138 (a := 234) rfl; omega
  by_cases c139 : x0 = (235 : Int32)
  · have h := ok_t h c139
    refine lv_tableIn (off := 666) (tgt := 667) hx hb d_De_formOfSingle_1 (by rw [c139]; decide) (by rw [c139]; decide) (by rw [c139]; rfl) (by decide) ?_
    exact w_De_formOfSingle_667 o C0 q h H locs ls hw (lv_sub hl [] rfl)
  have h := ok_f h c139
  have u0 : (236 : Int) ≤ x0.toInt := by have z := lv_neT c139 (a := 235) rfl; omega
  by_cases c140 : x0 = (236 : Int32)
  · have h := ok_t h c140
    refine lv_tableIn (off := 672) (tgt := 673) hx hb d_De_formOfSingle_1 (by rw [c140]; decide) (by rw [c140]; decide) (by rw [c140]; rfl) (by decide) ?_
    exact w_De_formOfSingle_673 o C0 q h H locs ls hw (lv_sub hl [] rfl)
  have h := ok_f h c140
  have u0 : (237 : Int) ≤ x0.toInt := by have z := lv_neT c140 (a := 236) rfl; omega
  by_cases c141 : x0 = (237 : Int32)
  · have h := ok_t h c141
    refine lv_tableIn (off := 672) (tgt := 673) hx hb d_De_formOfSingle_1 (by rw [c141]; decide) (by rw [c141]; decide) (by rw [c141]; rfl) (by decide) ?_
    exact w_De_formOfSingle_673 o C0 q h H locs ls hw (lv_sub hl [] rfl)
  have h := ok_f h c141
  have u0 : (238 : Int) ≤ x0.toInt := by have z := lv_neT c141 (a := 237) rfl; omega
  by_cases c142 : x0 = (238 : Int32)
  · have h := ok_t h c142
    refine lv_tableIn (off := 672) (tgt := 673) hx hb d_De_formOfSingle_1 (by rw [c142]; decide) (by rw [c142]; decide) (by rw [c142]; rfl) (by decide) ?_
    exact w_De_formOfSingle_673 o C0 q h H locs ls hw (lv_sub hl [] rfl)
  have h := ok_f h c142
  have u0 : (239 : Int) ≤ x0.toInt := by have z := lv_neT c142 (a := 238) rfl; omega
  by_cases c143 : x0 = (239 : Int32)
  · have h := ok_t h c143
    refine lv_tableIn (off := 672) (tgt := 673) hx hb d_De_formOfSingle_1 (by rw [c143]; decide) (by rw [c143]; decide) (by rw [c143]; rfl) (by decide) ?_
    exact w_De_formOfSingle_673 o C0 q h H locs ls hw (lv_sub hl [] rfl)
  have h := ok_f h c143
  have u0 : (240 : Int) ≤ x0.toInt := by have z := lv_neT c143 (a := 239) rfl; omega
  by_cases c144 : x0 = (240 : Int32)
  · have h := ok_t h c144
    refine lv_tableIn (off := 672) (tgt := 673) hx hb d_De_formOfSingle_1 (by rw [c144]; decide) (by rw [c144]; decide) (by rw [c144]; rfl) (by decide) ?_
    exact w_De_formOfSingle_673 o C0 q h H locs ls hw (lv_sub hl [] rfl)
  have h := ok_f h c144
  have u0 : (241 : Int) ≤ x0.toInt := by have z := lv_neT c144 (a := 240) rfl; omega
  by_cases c145 : x0 = (241 : Int32)
  · have h := ok_t h c145
    refine lv_tableIn (off := 672) (tgt := 673) hx hb d_De_formOfSingle_1 (by rw [c145]; decide) (by rw [c145]; decide) (by rw [c145]; rfl) (by decide) ?_
    exact w_De_formOfSingle_673 o C0 q h H locs ls hw (lv_sub hl [] rfl)
  have h := ok_f h c145
  have u0 : (242 : Int) ≤ x0.toInt := by have z := lv_neT c145 (a := 241) rfl; omega
  by_cases c146 : x0 = (242 : Int32)
  · have h := ok_t h c146
    refine lv_tableIn (off := 672) (tgt := 673) hx hb d_De_formOfSingle_1 (by rw [c146]; decide) (by rw [c146]; decide) (by rw [c146]; rfl) (by decide) ?_
    exact w_De_formOfSingle_673 o C0 q h H locs ls hw (lv_sub hl [] rfl)
  have h := ok_f h c146
  have u0 : (243 : Int) ≤ x0.toInt := by have z := lv_neT c146 (a := 242) rfl; omega
  by_cases c147 : x0 = (243 : Int32)
  · have h := ok_t h c147
    refine lv_tableIn (off := 672) (tgt := 673) hx hb d_De_formOfSingle_1 (by rw [c147]; decide) (by rw [c147]; decide) (by rw [c147]; rfl) (by decide) ?_
    exact w_De_formOfSingle_673 o C0 q h H locs ls hw (lv_sub hl [] rfl)
  have h := ok_f h c147
  have u0 : (244 : Int) ≤ x0.toInt := by have z := lv_neT c147 (a := 243) rfl; omega
  by_cases c148 : x0 = (244 : Int32)
  · have h := ok_t h c148
    refine lv_tableIn (off := 672) (tgt := 673) hx hb d_De_formOfSingle_1 (by rw [c148]; decide) (by rw [c148]; decide) (by rw [c148]; rfl) (by decide) ?_
    exact w_De_formOfSingle_673 o C0 q h H locs ls hw (lv_sub hl [] rfl)
  have h := ok_f h c148
  have u0 : (245 : Int) ≤ x0.toInt := by have z := lv_neT c148 (a := 244) rfl; omega
  by_cases c149 : x0 = (245 : Int32)
  · have h := ok_t h c149
    refine lv_tableIn (off := 643) (tgt := 644) hx hb d_De_formOfSingle_1 (by rw [c149]; decide) (by rw [c149]; decide) (by rw [c149]; rfl) (by decide) ?_
    exact w_De_formOfSingle_644 o C0 q h H locs ls hw (lv_sub hl [] rfl)
  have h := ok_f h c149
  have u0 : (246 : Int) ≤ x0.toInt := by have z := lv_neT c149 (a := 245) rfl; omega
  by_cases c150 : x0 = (246 : Int32)
  · have h := ok_t h c150
    refine lv_tableIn (off := 645) (tgt := 646) hx hb d_De_formOfSingle_1 (by rw [c150]; decide) (by rw [c150]; decide) (by rw [c150]; rfl) (by decide) ?_
    exact w_De_formOfSingle_646 o C0 q h H locs ls hw (lv_sub hl [] rfl)
  have h := ok_f h c150
  have u0 : (247 : Int) ≤ x0.toInt := by have z := lv_neT c150 (a := 246) rfl; omega
  by_cases c151 : x0 = (247 : Int32)
  · have h := ok_t h c151
    refine lv_tableIn (off := 645) (tgt := 646) hx hb d_De_formOfSingle_1 (by rw [c151]; decide) (by rw [c151]; decide) (by rw [c151]; rfl) (by decide) ?_
    exact w_De_formOfSingle_646 o C0 q h H locs ls hw (lv_sub hl [] rfl)
  have h := ok_f h c151
  have u0 : (248 : Int) ≤ x0.toInt := by have z := lv_neT c151 (a := 247) rfl; omega
  by_cases c152 : x0 = (248 : Int32)
  · have h := ok_t h c152
    refine lv_tableIn (off := 643) (tgt := 644) hx hb d_De_formOfSingle_1 (by rw [c152]; decide) (by rw [c152]; decide) (by rw [c152]; rfl) (by decide) ?_
    exact w_De_formOfSingle_644 o C0 q h H locs ls hw (lv_sub hl [] rfl)
  have h := ok_f h c152
  have u0 : (249 : Int) ≤ x0.toInt := by have z := lv_neT c152 (a := 248) rfl; omega
  by_cases c153 : x0 = (249 : Int32)
  · have h := ok_t h c153
    refine lv_tableIn (off := 643) (tgt := 644) hx hb d_De_formOfSingle_1 (by rw [c153]; decide) (by rw [c153]; decide) (by rw [c153]; rfl) (by decide) ?_
    exact w_De_formOfSingle_644 o C0 q h H locs ls hw (lv_sub hl [] rfl)
  have h := ok_f h c153
  have u0 : (250 : Int) ≤ x0.toInt := by have z := lv_neT c153 (a := 249) rfl; omega
  by_cases c154 : x0 = (250 : Int32)
  · have h := ok_t h c154
    refine lv_tableIn (off := 672) (tgt := 673) hx hb d_De_formOfSingle_1 (by rw [c154]; decide) (by rw [c154]; decide) (by rw [c154]; rfl) (by decide) ?_
    exact w_De_formOfSingle_673 o C0 q h H locs ls hw (lv_sub hl [] rfl)
  have h := ok_f h c154
  have u0 : (251 : Int) ≤ x0.toInt := by have z := lv_neT c154 (a := 250) rfl; omega
  by_cases c155 : x0 = (251 : Int32)
  · have h := ok_t h c155
    refine lv_tableIn (off := 672) (tgt := 673) hx hb d_De_formOfSingle_1 (by rw [c155]; decide) (by rw [c155]; decide) (by rw [c155]; rfl) (by decide) ?_
    exact w_De_formOfSingle_673 o C0 q h H locs ls hw (lv_sub hl [] rfl)
  have h := ok_f h c155
  have u0 : (252 : Int) ≤ x0.toInt := by have z := lv_neT c155 (a := 251) rfl; omega
  by_cases c156 : x0 = (252 : Int32)
  · have h := ok_t h c156
    refine lv_tableIn (off := 643) (tgt := 644) hx hb d_De_formOfSingle_1 (by rw [c156]; decide) (by rw [c156]; decide) (by rw [c156]; rfl) (by decide) ?_
    exact w_De_formOfSingle_644 o C0 q h H locs ls hw (lv_sub hl [] rfl)
  have h := ok_f h c156
  have u0 : (253 : Int) ≤ x0.toInt := by have z := lv_neT c156 (a := 252) rfl; omega
  by_cases c157 : x0 = (253 : Int32)
  · have h := ok_t h c157
    refine lv_tableIn (off := 643) (tgt := 644) hx hb d_De_formOfSingle_1 (by rw [c157]; decide) (by rw [c157]; decide) (by rw [c157]; rfl) (by decide) ?_
    exact w_De_formOfSingle_644 o C0 q h H locs ls hw (lv_sub hl [] rfl)
  have h := ok_f h c157
  have u0 : (254 : Int) ≤ x0.toInt := by have z := lv_neT c157 (a := 253) rfl; omega
  by_cases c158 : x0 = (254 : Int32)
  · have h := ok_t h c158
    refine lv_tableIn (off := 645) (tgt := 646) hx hb d_De_formOfSingle_1 (by rw [c158]; decide) (by rw [c158]; decide) (by rw [c158]; rfl) (by decide) ?_
    exact w_De_formOfSingle_646 o C0 q h H locs ls hw (lv_sub hl [] rfl)
  have h := ok_f h c158
  have u0 : (255 : Int) ≤ x0.toInt := by have z := lv_neT c158 (a := 254) rfl; omega
  have c159 : x0 = (255 : Int32) := Int32.toInt_inj.mp (by rw [show (255 : Int32).toInt = 255 from rfl]; omega)
  refine lv_tableIn (off := 645) (tgt := 646) hx hb d_De_formOfSingle_1 (by rw [c159]; decide) (by rw [c159]; decide) (by rw [c159]; rfl) (by decide) ?_
  exact w_De_formOfSingle_646 o C0 q h H locs ls hw (lv_sub hl [] rfl)
def k_De_formOfOne_136 (x0 : Int32) (q : z_Sg) : Option Int32 :=
  (f_De_formOfSum (x0 &&& (7 : Int32)) q).bind (fun r2 => some r2)
def k_De_formOfOne_144 (q : z_Sg) : Option Int32 :=
  some (1 : Int32)
def k_De_formOfOne_146 (q : z_Sg) : Option Int32 :=
  some (12 : Int32)
def f_De_formOfOne (x0 : Int32) (q : z_Sg) : Option Int32 :=
  if (x0 &&& (248 : Int32)) = (0 : Int32) then (k_De_formOfOne_136 x0 q) else (if (x0 &&& (248 : Int32)) = (8 : Int32) then (k_De_formOfOne_136 x0 q) else (if (x0 &&& (248 : Int32)) = (16 : Int32) then (k_De_formOfOne_136 x0 q) else (if (x0 &&& (248 : Int32)) = (24 : Int32) then (k_De_formOfOne_136 x0 q) else (if (x0 &&& (248 : Int32)) = (32 : Int32) then (k_De_formOfOne_136 x0 q) else (if (x0 &&& (248 : Int32)) = (40 : Int32) then (k_De_formOfOne_136 x0 q) else (if (x0 &&& (248 : Int32)) = (48 : Int32) then (k_De_formOfOne_136 x0 q) else (if (x0 &&& (248 : Int32)) = (56 : Int32) then (k_De_formOfOne_136 x0 q) else (if (x0 &&& (248 : Int32)) = (80 : Int32) then (k_De_formOfOne_144 q) else (if (x0 &&& (248 : Int32)) = (88 : Int32) then (k_De_formOfOne_144 q) else (if (x0 &&& (248 : Int32)) = (112 : Int32) then (k_De_formOfOne_146 q) else (if (x0 &&& (248 : Int32)) = (120 : Int32) then (k_De_formOfOne_146 q) else (if (x0 &&& (248 : Int32)) = (144 : Int32) then (k_De_formOfOne_144 q) else (if (x0 &&& (248 : Int32)) = (176 : Int32) then (some (8 : Int32)) else (if (x0 &&& (248 : Int32)) = (184 : Int32) then (some (64 : Int32)) else ((f_De_formOfSingle x0 q).bind (fun r17 => some r17))))))))))))))))
set_option maxHeartbeats 4000000 in
set_option maxRecDepth 100000 in
theorem w_De_formOfOne_136 {p : Program} {l : Launch} {e : Env} {s : State} {m : MethodId} {args : Array Value} {below : List Frame} {meth : Method} {c : Code} {D : va_G} {A : Nat → Prop} {ad : Nat → Nat} {ca : Nat → ClassId} (o : Int32) (C0 : z_cx z_RDe b_De_formOfOne 1 (some .int) D (z_Kt ca) A p s m args meth c) (q : z_Sg) (x0 : Int32) (h : k_De_formOfOne_136 x0 q = some o) : ∀ (H : Heap) (locs : List Loc) (ls : Array Slot), z_wd D (z_K ad ca q) A s H locs → lv_has ls 1 [(0, .int x0)] → W p l e (z_rm 1 20) s m args below meth c H locs 0 0 (z_qi below D (z_Kt ca) (z_K ad ca q) A s args o) (F0 m 136 ls []) := by
  obtain ⟨hx, hb, hr, hlk, hml, hown, hts, hK, hA⟩ := id C0
  intro H locs ls hw hl
  refine lv_iload_n hx hb d_De_formOfOne_136 rfl (lv_at hl 0 rfl) ?_
  refine lv_bipush (v := (7 : Int32)) hx hb d_De_formOfOne_137 (by decide) ?_
  refine lv_iand hx hb d_De_formOfOne_139 ?_
  obtain ⟨r2, er2, h⟩ := ok_b h
  refine z_si (rest := []) C0 hw (c_De_formOfSum (x0 &&& (7 : Int32)) q r2 er2) mw_De_formOfSum ml_De_94 ⟨Nat.le_of_ble_eq_true rfl, Nat.le_of_ble_eq_true rfl⟩ ⟨Nat.le_refl 0, Nat.le_refl 0⟩ rfl hl.1 rfl (Nat.le_of_ble_eq_true rfl) d_De_formOfOne_140 (fun H locs hw => ?_)
  have ho := Option.some.inj h
  subst ho
  exact z_rti C0 hw d_De_formOfOne_143
set_option maxHeartbeats 4000000 in
set_option maxRecDepth 100000 in
theorem w_De_formOfOne_144 {p : Program} {l : Launch} {e : Env} {s : State} {m : MethodId} {args : Array Value} {below : List Frame} {meth : Method} {c : Code} {D : va_G} {A : Nat → Prop} {ad : Nat → Nat} {ca : Nat → ClassId} (o : Int32) (C0 : z_cx z_RDe b_De_formOfOne 1 (some .int) D (z_Kt ca) A p s m args meth c) (q : z_Sg) (h : k_De_formOfOne_144 q = some o) : ∀ (H : Heap) (locs : List Loc) (ls : Array Slot), z_wd D (z_K ad ca q) A s H locs → lv_has ls 1 [] → W p l e (z_rm 1 20) s m args below meth c H locs 0 0 (z_qi below D (z_Kt ca) (z_K ad ca q) A s args o) (F0 m 144 ls []) := by
  obtain ⟨hx, hb, hr, hlk, hml, hown, hts, hK, hA⟩ := id C0
  intro H locs ls hw hl
  refine lv_iconst (v := (1 : Int32)) hx hb d_De_formOfOne_144 (by decide) ?_
  have ho := Option.some.inj h
  subst ho
  exact z_rti C0 hw d_De_formOfOne_145
set_option maxHeartbeats 4000000 in
set_option maxRecDepth 100000 in
theorem w_De_formOfOne_146 {p : Program} {l : Launch} {e : Env} {s : State} {m : MethodId} {args : Array Value} {below : List Frame} {meth : Method} {c : Code} {D : va_G} {A : Nat → Prop} {ad : Nat → Nat} {ca : Nat → ClassId} (o : Int32) (C0 : z_cx z_RDe b_De_formOfOne 1 (some .int) D (z_Kt ca) A p s m args meth c) (q : z_Sg) (h : k_De_formOfOne_146 q = some o) : ∀ (H : Heap) (locs : List Loc) (ls : Array Slot), z_wd D (z_K ad ca q) A s H locs → lv_has ls 1 [] → W p l e (z_rm 1 20) s m args below meth c H locs 0 0 (z_qi below D (z_Kt ca) (z_K ad ca q) A s args o) (F0 m 146 ls []) := by
  obtain ⟨hx, hb, hr, hlk, hml, hown, hts, hK, hA⟩ := id C0
  intro H locs ls hw hl
  refine lv_bipush (v := (12 : Int32)) hx hb d_De_formOfOne_146 (by decide) ?_
  have ho := Option.some.inj h
  subst ho
  exact z_rti C0 hw d_De_formOfOne_148
set_option maxHeartbeats 4000000 in
set_option maxRecDepth 100000 in
theorem c_De_formOfOne {l : Launch} {D : va_G} {ad : Nat → Nat} {ca : Nat → ClassId} (x0 : Int32) (q : z_Sg) (o : Int32) (h : f_De_formOfOne x0 q = some o) : z_ci l y_De_formOfOne b_De_formOfOne 1 (some .int) 1 20 D (z_Kt ca) (z_K ad ca q) (z_K ad ca q) [.int x0] o := by
  refine z_ci_of (own := z_RDe) (by decide) rfl ?_
  intro p e s m below meth c A C0 hw
  obtain ⟨hx, hb, hr, hlk, hml, hown, hts, hK, hA⟩ := id C0
  generalize hH : s.heap = H at hw ⊢
  generalize hlo : ([] : List Loc) = locs at hw ⊢
  refine z_entry (lv := [(0, .int x0)]) (Nat.le_of_ble_eq_true rfl) rfl (fun ls hl => ?_)
  unfold f_De_formOfOne at h
  refine lv_iload_n hx hb d_De_formOfOne_0 rfl (lv_at hl 0 rfl) ?_
  refine lv_sipush (v := (248 : Int32)) hx hb d_De_formOfOne_1 (by decide) ?_
  refine lv_iand hx hb d_De_formOfOne_4 ?_
  by_cases c1 : (x0 &&& (248 : Int32)) = (0 : Int32)
  · have h := ok_t h c1
    refine lv_lookup (off := 131) (tgt := 136) hx hb d_De_formOfOne_5 (by decide) (by rw [c1]; rfl) (by decide) ?_
    exact w_De_formOfOne_136 o C0 q x0 h H locs ls hw (lv_sub hl [0] rfl)
  have h := ok_f h c1
  by_cases c3 : (x0 &&& (248 : Int32)) = (8 : Int32)
  · have h := ok_t h c3
    refine lv_lookup (off := 131) (tgt := 136) hx hb d_De_formOfOne_5 (by decide) (by rw [c3]; rfl) (by decide) ?_
    exact w_De_formOfOne_136 o C0 q x0 h H locs ls hw (lv_sub hl [0] rfl)
  have h := ok_f h c3
  by_cases c4 : (x0 &&& (248 : Int32)) = (16 : Int32)
  · have h := ok_t h c4
    refine lv_lookup (off := 131) (tgt := 136) hx hb d_De_formOfOne_5 (by decide) (by rw [c4]; rfl) (by decide) ?_
    exact w_De_formOfOne_136 o C0 q x0 h H locs ls hw (lv_sub hl [0] rfl)
  have h := ok_f h c4
  by_cases c5 : (x0 &&& (248 : Int32)) = (24 : Int32)
  · have h := ok_t h c5
    refine lv_lookup (off := 131) (tgt := 136) hx hb d_De_formOfOne_5 (by decide) (by rw [c5]; rfl) (by decide) ?_
    exact w_De_formOfOne_136 o C0 q x0 h H locs ls hw (lv_sub hl [0] rfl)
  have h := ok_f h c5
  by_cases c6 : (x0 &&& (248 : Int32)) = (32 : Int32)
  · have h := ok_t h c6
    refine lv_lookup (off := 131) (tgt := 136) hx hb d_De_formOfOne_5 (by decide) (by rw [c6]; rfl) (by decide) ?_
    exact w_De_formOfOne_136 o C0 q x0 h H locs ls hw (lv_sub hl [0] rfl)
  have h := ok_f h c6
  by_cases c7 : (x0 &&& (248 : Int32)) = (40 : Int32)
  · have h := ok_t h c7
    refine lv_lookup (off := 131) (tgt := 136) hx hb d_De_formOfOne_5 (by decide) (by rw [c7]; rfl) (by decide) ?_
    exact w_De_formOfOne_136 o C0 q x0 h H locs ls hw (lv_sub hl [0] rfl)
  have h := ok_f h c7
  by_cases c8 : (x0 &&& (248 : Int32)) = (48 : Int32)
  · have h := ok_t h c8
    refine lv_lookup (off := 131) (tgt := 136) hx hb d_De_formOfOne_5 (by decide) (by rw [c8]; rfl) (by decide) ?_
    exact w_De_formOfOne_136 o C0 q x0 h H locs ls hw (lv_sub hl [0] rfl)
  have h := ok_f h c8
  by_cases c9 : (x0 &&& (248 : Int32)) = (56 : Int32)
  · have h := ok_t h c9
    refine lv_lookup (off := 131) (tgt := 136) hx hb d_De_formOfOne_5 (by decide) (by rw [c9]; rfl) (by decide) ?_
    exact w_De_formOfOne_136 o C0 q x0 h H locs ls hw (lv_sub hl [0] rfl)
  have h := ok_f h c9
  by_cases c10 : (x0 &&& (248 : Int32)) = (80 : Int32)
  · have h := ok_t h c10
    refine lv_lookup (off := 139) (tgt := 144) hx hb d_De_formOfOne_5 (by decide) (by rw [c10]; rfl) (by decide) ?_
    exact w_De_formOfOne_144 o C0 q h H locs ls hw (lv_sub hl [] rfl)
  have h := ok_f h c10
  by_cases c11 : (x0 &&& (248 : Int32)) = (88 : Int32)
  · have h := ok_t h c11
    refine lv_lookup (off := 139) (tgt := 144) hx hb d_De_formOfOne_5 (by decide) (by rw [c11]; rfl) (by decide) ?_
    exact w_De_formOfOne_144 o C0 q h H locs ls hw (lv_sub hl [] rfl)
  have h := ok_f h c11
  by_cases c12 : (x0 &&& (248 : Int32)) = (112 : Int32)
  · have h := ok_t h c12
    refine lv_lookup (off := 141) (tgt := 146) hx hb d_De_formOfOne_5 (by decide) (by rw [c12]; rfl) (by decide) ?_
    exact w_De_formOfOne_146 o C0 q h H locs ls hw (lv_sub hl [] rfl)
  have h := ok_f h c12
  by_cases c13 : (x0 &&& (248 : Int32)) = (120 : Int32)
  · have h := ok_t h c13
    refine lv_lookup (off := 141) (tgt := 146) hx hb d_De_formOfOne_5 (by decide) (by rw [c13]; rfl) (by decide) ?_
    exact w_De_formOfOne_146 o C0 q h H locs ls hw (lv_sub hl [] rfl)
  have h := ok_f h c13
  by_cases c14 : (x0 &&& (248 : Int32)) = (144 : Int32)
  · have h := ok_t h c14
    refine lv_lookup (off := 139) (tgt := 144) hx hb d_De_formOfOne_5 (by decide) (by rw [c14]; rfl) (by decide) ?_
    exact w_De_formOfOne_144 o C0 q h H locs ls hw (lv_sub hl [] rfl)
  have h := ok_f h c14
  by_cases c15 : (x0 &&& (248 : Int32)) = (176 : Int32)
  · have h := ok_t h c15
    refine lv_lookup (off := 144) (tgt := 149) hx hb d_De_formOfOne_5 (by decide) (by rw [c15]; rfl) (by decide) ?_
    refine lv_bipush (v := (8 : Int32)) hx hb d_De_formOfOne_149 (by decide) ?_
    have ho := Option.some.inj h
    subst ho
    exact z_rti C0 hw d_De_formOfOne_151
  have h := ok_f h c15
  by_cases c16 : (x0 &&& (248 : Int32)) = (184 : Int32)
  · have h := ok_t h c16
    refine lv_lookup (off := 147) (tgt := 152) hx hb d_De_formOfOne_5 (by decide) (by rw [c16]; rfl) (by decide) ?_
    refine lv_bipush (v := (64 : Int32)) hx hb d_De_formOfOne_152 (by decide) ?_
    have ho := Option.some.inj h
    subst ho
    exact z_rti C0 hw d_De_formOfOne_154
  have h := ok_f h c16
  refine lv_lookup (off := 150) (tgt := 155) hx hb d_De_formOfOne_5 (by decide) (by show Op.lookupswitch.offset [(0, 131), (8, 131), (16, 131), (24, 131), (32, 131), (40, 131), (48, 131), (56, 131), (80, 139), (88, 139), (112, 141), (120, 141), (144, 139), (176, 144), (184, 147)] _ _ = _; rw [lv_osw (a := 0) c1 rfl, lv_osw (a := 8) c3 rfl, lv_osw (a := 16) c4 rfl, lv_osw (a := 24) c5 rfl, lv_osw (a := 32) c6 rfl, lv_osw (a := 40) c7 rfl, lv_osw (a := 48) c8 rfl, lv_osw (a := 56) c9 rfl, lv_osw (a := 80) c10 rfl, lv_osw (a := 88) c11 rfl, lv_osw (a := 112) c12 rfl, lv_osw (a := 120) c13 rfl, lv_osw (a := 144) c14 rfl, lv_osw (a := 176) c15 rfl, lv_osw (a := 184) c16 rfl]; rfl) (by decide) ?_
  refine lv_iload_n hx hb d_De_formOfOne_155 rfl (lv_at hl 0 rfl) ?_
  obtain ⟨r17, er17, h⟩ := ok_b h
  refine z_si (rest := []) C0 hw (c_De_formOfSingle x0 q r17 er17) mw_De_formOfSingle ml_De_97 ⟨Nat.le_of_ble_eq_true rfl, Nat.le_of_ble_eq_true rfl⟩ ⟨Nat.le_refl 0, Nat.le_refl 0⟩ rfl hl.1 rfl (Nat.le_of_ble_eq_true rfl) d_De_formOfOne_156 (fun H locs hw => ?_)
  have ho := Option.some.inj h
  subst ho
  exact z_rti C0 hw d_De_formOfOne_159
def k_De_decode_56 (q : z_Sg) : Option (Int32 × z_Sg) :=
  some ((6 : Int32), q)
def k_De_decode_93 (x1 : Int32) (x2 : Int32) (q : z_Sg) : Option (Int32 × z_Sg) :=
  if x1 = (-1 : Int32) then ((f_De_bytesOfNumber x2 q).bind (fun r12 => (f_De_fetchNumber r12 q).bind (fun r13 => z_nm (z_sL r13.2 9 (z_gL r13.2 7)) (fun q14 => z_nm (z_sL q14 10 ((z_gL q14 0) + ((z_gI q14 3).toInt64))) (fun q15 => some (r13.1, q15)))))) else (some (x1, q))
def k_De_decode_75 (x1 : Int32) (x2 : Int32) (q : z_Sg) : Option (Int32 × z_Sg) :=
  if x1 = (-1 : Int32) then (if (z_gI q 12) = (3 : Int32) then (k_De_decode_93 x1 x2 q) else ((f_De_fetchPlace q).bind (fun r17 => k_De_decode_93 r17.1 x2 r17.2))) else (k_De_decode_93 x1 x2 q)
def k_De_decode_43 (x1 : Int32) (t0 : Int32) (q : z_Sg) : Option (Int32 × z_Sg) :=
  if t0 = 0 then (k_De_decode_56 q) else ((f_De_isToldInSize t0 q).bind (fun r6 => if r6 = 0 then (k_De_decode_56 q) else (z_nm (z_sI q 12 (3 : Int32)) (fun q8 => if (t0 &&& (2 : Int32)) = 0 then (k_De_decode_75 x1 t0 q8) else ((f_De_fetchModrm q8).bind (fun r18 => k_De_decode_75 r18.1 t0 r18.2))))))
def f_De_decode (q : z_Sg) : Option (Int32 × z_Sg) :=
  (f_De_fetchOpcode q).bind (fun r1 => if r1.1 = (-1 : Int32) then (if (256 : Int32) ≤ (z_gI r1.2 11) then ((f_De_formOfTwo ((z_gI r1.2 11) - (256 : Int32)) r1.2).bind (fun r4 => k_De_decode_43 r1.1 r4 r1.2)) else ((f_De_formOfOne (z_gI r1.2 11) r1.2).bind (fun r19 => k_De_decode_43 r1.1 r19 r1.2))) else (some (r1.1, r1.2)))
set_option maxHeartbeats 4000000 in
set_option maxRecDepth 100000 in
theorem w_De_decode_56 {p : Program} {l : Launch} {e : Env} {s : State} {m : MethodId} {args : Array Value} {below : List Frame} {meth : Method} {c : Code} {D : va_G} {A : Nat → Prop} {ad : Nat → Nat} {ca : Nat → ClassId} (o : (Int32 × z_Sg)) (C0 : z_cx z_RDe b_De_decode 3 (some .int) D (z_Kt ca) A p s m args meth c) (q : z_Sg) (h : k_De_decode_56 q = some o) : ∀ (H : Heap) (locs : List Loc) (ls : Array Slot), z_wd D (z_K ad ca q) A s H locs → lv_has ls 3 [] → W p l e (z_rm 5 128) s m args below meth c H locs 0 0 (z_qi below D (z_Kt ca) (z_K ad ca o.2) A s args o.1) (F0 m 56 ls []) := by
  obtain ⟨hx, hb, hr, hlk, hml, hown, hts, hK, hA⟩ := id C0
  intro H locs ls hw hl
  refine lv_bipush (v := (6 : Int32)) hx hb d_De_decode_56 (by decide) ?_
  have ho := Option.some.inj h
  subst ho
  exact z_rti C0 hw d_De_decode_58
set_option maxHeartbeats 4000000 in
set_option maxRecDepth 100000 in
theorem w_De_decode_93 {p : Program} {l : Launch} {e : Env} {s : State} {m : MethodId} {args : Array Value} {below : List Frame} {meth : Method} {c : Code} {D : va_G} {A : Nat → Prop} {ad : Nat → Nat} {ca : Nat → ClassId} (o : (Int32 × z_Sg)) (C0 : z_cx z_RDe b_De_decode 3 (some .int) D (z_Kt ca) A p s m args meth c) (q : z_Sg) (x1 : Int32) (x2 : Int32) (h : k_De_decode_93 x1 x2 q = some o) : ∀ (H : Heap) (locs : List Loc) (ls : Array Slot), z_wd D (z_K ad ca q) A s H locs → lv_has ls 3 [(0, .ref (ad 5)), (1, .int x1), (2, .int x2)] → W p l e (z_rm 5 128) s m args below meth c H locs 0 0 (z_qi below D (z_Kt ca) (z_K ad ca o.2) A s args o.1) (F0 m 93 ls []) := by
  obtain ⟨hx, hb, hr, hlk, hml, hown, hts, hK, hA⟩ := id C0
  intro H locs ls hw hl
  refine lv_iload_n hx hb d_De_decode_93 rfl (lv_at hl 1 rfl) ?_
  refine lv_iconst (v := (-1 : Int32)) hx hb d_De_decode_94 (by decide) ?_
  refine lv_icmp_eq (tgt := 100) hx hb d_De_decode_95 (by decide) (fun c11 => ?_) (fun c11 => ?_)
  · have h := ok_t h c11
    refine lv_aload_n hx hb d_De_decode_100 rfl (lv_at hl 0 rfl) ?_
    refine lv_aload_n hx hb d_De_decode_101 rfl (lv_at hl 0 rfl) ?_
    refine lv_iload_n hx hb d_De_decode_102 rfl (lv_at hl 2 rfl) ?_
    obtain ⟨r12, er12, h⟩ := ok_b h
    refine z_vi (rest := [.ref (ad 5)]) C0 hw (c_De_bytesOfNumber x2 q r12 er12) mw_De_bytesOfNumber ml_De_47 5 rfl ⟨Nat.le_of_ble_eq_true rfl, Nat.le_of_ble_eq_true rfl⟩ ⟨Nat.le_refl 0, Nat.le_refl 0⟩ rfl hl.1 rfl (Nat.le_of_ble_eq_true rfl) d_De_decode_103 (fun H locs hw => ?_)
    obtain ⟨r13, er13, h⟩ := ok_b h
    refine z_vi (rest := []) C0 hw (c_De_fetchNumber r12 q r13 er13) mw_De_fetchNumber ml_De_50 5 rfl ⟨Nat.le_of_ble_eq_true rfl, Nat.le_of_ble_eq_true rfl⟩ ⟨Nat.le_refl 0, Nat.le_refl 0⟩ rfl hl.1 rfl (Nat.le_of_ble_eq_true rfl) d_De_decode_106 (fun H locs hw => ?_)
    refine lv_istore_n (lv' := [(1, .int r13.1), (0, .ref (ad 5)), (2, .int x2)]) hx hb d_De_decode_109 rfl hl (by decide) rfl (fun ls hl => ?_)
    refine lv_aload_n hx hb d_De_decode_110 rfl (lv_at hl 1 rfl) ?_
    refine lv_aload_n hx hb d_De_decode_111 rfl (lv_at hl 1 rfl) ?_
    refine gfK_5_fetched C0 hw fl_De_53 d_De_decode_112 ?_
    refine pfK_5_number C0 hw fl_De_57 d_De_decode_115 (fun H locs hw => ?_)
    obtain ⟨q14, eq14, h⟩ := ok_n h
    rw [← eq14] at hw
    refine lv_aload_n hx hb d_De_decode_118 rfl (lv_at hl 1 rfl) ?_
    refine lv_aload_n hx hb d_De_decode_119 rfl (lv_at hl 1 rfl) ?_
    refine gfK_5_state C0 hw fl_De_9 d_De_decode_120 ?_
    refine gfK_1_next C0 hw fl_De_60 d_De_decode_123 ?_
    refine lv_aload_n hx hb d_De_decode_126 rfl (lv_at hl 1 rfl) ?_
    refine gfK_5_count C0 hw fl_De_65 d_De_decode_127 ?_
    refine lv_i2l hx hb d_De_decode_130 rfl ?_
    refine lv_ladd hx hb d_De_decode_131 ?_
    refine pfK_5_onward C0 hw fl_De_68 d_De_decode_132 (fun H locs hw => ?_)
    obtain ⟨q15, eq15, h⟩ := ok_n h
    rw [← eq15] at hw
    refine lv_iload_n hx hb d_De_decode_135 rfl (lv_at hl 0 rfl) ?_
    have ho := Option.some.inj h
    subst ho
    exact z_rti C0 hw d_De_decode_136
  · have h := ok_f h c11
    refine lv_iload_n hx hb d_De_decode_98 rfl (lv_at hl 1 rfl) ?_
    have ho := Option.some.inj h
    subst ho
    exact z_rti C0 hw d_De_decode_99
set_option maxHeartbeats 4000000 in
set_option maxRecDepth 100000 in
theorem w_De_decode_75 {p : Program} {l : Launch} {e : Env} {s : State} {m : MethodId} {args : Array Value} {below : List Frame} {meth : Method} {c : Code} {D : va_G} {A : Nat → Prop} {ad : Nat → Nat} {ca : Nat → ClassId} (o : (Int32 × z_Sg)) (C0 : z_cx z_RDe b_De_decode 3 (some .int) D (z_Kt ca) A p s m args meth c) (q : z_Sg) (x1 : Int32) (x2 : Int32) (h : k_De_decode_75 x1 x2 q = some o) : ∀ (H : Heap) (locs : List Loc) (ls : Array Slot), z_wd D (z_K ad ca q) A s H locs → lv_has ls 3 [(0, .ref (ad 5)), (1, .int x1), (2, .int x2)] → W p l e (z_rm 5 128) s m args below meth c H locs 0 0 (z_qi below D (z_Kt ca) (z_K ad ca o.2) A s args o.1) (F0 m 75 ls []) := by
  obtain ⟨hx, hb, hr, hlk, hml, hown, hts, hK, hA⟩ := id C0
  intro H locs ls hw hl
  refine lv_iload_n hx hb d_De_decode_75 rfl (lv_at hl 1 rfl) ?_
  refine lv_iconst (v := (-1 : Int32)) hx hb d_De_decode_76 (by decide) ?_
  refine lv_icmp_ne (tgt := 93) hx hb d_De_decode_77 (by decide) (fun c10 => ?_) (fun c10 => ?_)
  · have h := ok_f h c10
    exact w_De_decode_93 o C0 q x1 x2 h H locs ls hw (lv_sub hl [0, 1, 2] rfl)
  · have h := ok_t h c10
    refine lv_aload_n hx hb d_De_decode_80 rfl (lv_at hl 0 rfl) ?_
    refine gfK_5_mod C0 hw fl_De_38 d_De_decode_81 ?_
    refine lv_iconst (v := (3 : Int32)) hx hb d_De_decode_84 (by decide) ?_
    refine lv_icmp_eq (tgt := 93) hx hb d_De_decode_85 (by decide) (fun c16 => ?_) (fun c16 => ?_)
    · have h := ok_t h c16
      exact w_De_decode_93 o C0 q x1 x2 h H locs ls hw (lv_sub hl [0, 1, 2] rfl)
    · have h := ok_f h c16
      refine lv_aload_n hx hb d_De_decode_88 rfl (lv_at hl 0 rfl) ?_
      obtain ⟨r17, er17, h⟩ := ok_b h
      refine z_vi (rest := []) C0 hw (c_De_fetchPlace q r17 er17) mw_De_fetchPlace ml_De_44 5 rfl ⟨Nat.le_of_ble_eq_true rfl, Nat.le_of_ble_eq_true rfl⟩ ⟨Nat.le_refl 0, Nat.le_refl 0⟩ rfl hl.1 rfl (Nat.le_of_ble_eq_true rfl) d_De_decode_89 (fun H locs hw => ?_)
      refine lv_istore_n (lv' := [(1, .int r17.1), (0, .ref (ad 5)), (2, .int x2)]) hx hb d_De_decode_92 rfl hl (by decide) rfl (fun ls hl => ?_)
      exact w_De_decode_93 o C0 r17.2 r17.1 x2 h H locs ls hw (lv_sub hl [1, 0, 2] rfl)
set_option maxHeartbeats 4000000 in
set_option maxRecDepth 100000 in
theorem w_De_decode_43 {p : Program} {l : Launch} {e : Env} {s : State} {m : MethodId} {args : Array Value} {below : List Frame} {meth : Method} {c : Code} {D : va_G} {A : Nat → Prop} {ad : Nat → Nat} {ca : Nat → ClassId} (o : (Int32 × z_Sg)) (C0 : z_cx z_RDe b_De_decode 3 (some .int) D (z_Kt ca) A p s m args meth c) (q : z_Sg) (x1 : Int32) (t0 : Int32) (h : k_De_decode_43 x1 t0 q = some o) : ∀ (H : Heap) (locs : List Loc) (ls : Array Slot), z_wd D (z_K ad ca q) A s H locs → lv_has ls 3 [(0, .ref (ad 5)), (1, .int x1)] → W p l e (z_rm 5 128) s m args below meth c H locs 0 0 (z_qi below D (z_Kt ca) (z_K ad ca o.2) A s args o.1) (F0 m 43 ls [.int t0]) := by
  obtain ⟨hx, hb, hr, hlk, hml, hown, hts, hK, hA⟩ := id C0
  intro H locs ls hw hl
  refine lv_istore_n (lv' := [(2, .int t0), (0, .ref (ad 5)), (1, .int x1)]) hx hb d_De_decode_43 rfl hl (by decide) rfl (fun ls hl => ?_)
  refine lv_iload_n hx hb d_De_decode_44 rfl (lv_at hl 0 rfl) ?_
  refine lv_if_eq (tgt := 56) hx hb d_De_decode_45 (by decide) (fun c5 => ?_) (fun c5 => ?_)
  · have h := ok_t h c5
    exact w_De_decode_56 o C0 q h H locs ls hw (lv_sub hl [] rfl)
  · have h := ok_f h c5
    refine lv_aload_n hx hb d_De_decode_48 rfl (lv_at hl 1 rfl) ?_
    refine lv_iload_n hx hb d_De_decode_49 rfl (lv_at hl 0 rfl) ?_
    obtain ⟨r6, er6, h⟩ := ok_b h
    refine z_vi (rest := []) C0 hw (c_De_isToldInSize t0 q r6 er6) mw_De_isToldInSize ml_De_34 5 rfl ⟨Nat.le_of_ble_eq_true rfl, Nat.le_of_ble_eq_true rfl⟩ ⟨Nat.le_refl 0, Nat.le_refl 0⟩ rfl hl.1 rfl (Nat.le_of_ble_eq_true rfl) d_De_decode_50 (fun H locs hw => ?_)
    refine lv_if_ne (tgt := 59) hx hb d_De_decode_53 (by decide) (fun c7 => ?_) (fun c7 => ?_)
    · have h := ok_f h c7
      refine lv_aload_n hx hb d_De_decode_59 rfl (lv_at hl 1 rfl) ?_
      refine lv_iconst (v := (3 : Int32)) hx hb d_De_decode_60 (by decide) ?_
      refine pfK_5_mod C0 hw fl_De_38 d_De_decode_61 (fun H locs hw => ?_)
      obtain ⟨q8, eq8, h⟩ := ok_n h
      rw [← eq8] at hw
      refine lv_iload_n hx hb d_De_decode_64 rfl (lv_at hl 0 rfl) ?_
      refine lv_iconst (v := (2 : Int32)) hx hb d_De_decode_65 (by decide) ?_
      refine lv_iand hx hb d_De_decode_66 ?_
      refine lv_if_eq (tgt := 75) hx hb d_De_decode_67 (by decide) (fun c9 => ?_) (fun c9 => ?_)
      · have h := ok_t h c9
        exact w_De_decode_75 o C0 q8 x1 t0 h H locs ls hw (lv_sub hl [1, 2, 0] rfl)
      · have h := ok_f h c9
        refine lv_aload_n hx hb d_De_decode_70 rfl (lv_at hl 1 rfl) ?_
        obtain ⟨r18, er18, h⟩ := ok_b h
        refine z_vi (rest := []) C0 hw (c_De_fetchModrm q8 r18 er18) mw_De_fetchModrm ml_De_41 5 rfl ⟨Nat.le_of_ble_eq_true rfl, Nat.le_of_ble_eq_true rfl⟩ ⟨Nat.le_refl 0, Nat.le_refl 0⟩ rfl hl.1 rfl (Nat.le_of_ble_eq_true rfl) d_De_decode_71 (fun H locs hw => ?_)
        refine lv_istore_n (lv' := [(1, .int r18.1), (2, .int t0), (0, .ref (ad 5))]) hx hb d_De_decode_74 rfl hl (by decide) rfl (fun ls hl => ?_)
        exact w_De_decode_75 o C0 r18.2 r18.1 t0 h H locs ls hw (lv_sub hl [2, 0, 1] rfl)
    · have h := ok_t h c7
      exact w_De_decode_56 o C0 q h H locs ls hw (lv_sub hl [] rfl)
set_option maxHeartbeats 4000000 in
set_option maxRecDepth 100000 in
theorem c_De_decode {l : Launch} {D : va_G} {ad : Nat → Nat} {ca : Nat → ClassId} (q : z_Sg) (o : (Int32 × z_Sg)) (h : f_De_decode q = some o) : z_ci l y_De_decode b_De_decode 3 (some .int) 5 128 D (z_Kt ca) (z_K ad ca q) (z_K ad ca o.2) [.ref (ad 5)] o.1 := by
  refine z_ci_of (own := z_RDe) (by decide) rfl ?_
  intro p e s m below meth c A C0 hw
  obtain ⟨hx, hb, hr, hlk, hml, hown, hts, hK, hA⟩ := id C0
  generalize hH : s.heap = H at hw ⊢
  generalize hlo : ([] : List Loc) = locs at hw ⊢
  refine z_entry (lv := [(0, .ref (ad 5))]) (Nat.le_of_ble_eq_true rfl) rfl (fun ls hl => ?_)
  unfold f_De_decode at h
  refine lv_aload_n hx hb d_De_decode_0 rfl (lv_at hl 0 rfl) ?_
  obtain ⟨r1, er1, h⟩ := ok_b h
  refine z_vi (rest := []) C0 hw (c_De_fetchOpcode q r1 er1) mw_De_fetchOpcode ml_De_19 5 rfl ⟨Nat.le_of_ble_eq_true rfl, Nat.le_of_ble_eq_true rfl⟩ ⟨Nat.le_refl 0, Nat.le_refl 0⟩ rfl hl.1 rfl (Nat.le_of_ble_eq_true rfl) d_De_decode_1 (fun H locs hw => ?_)
  refine lv_istore_n (lv' := [(1, .int r1.1), (0, .ref (ad 5))]) hx hb d_De_decode_4 rfl hl (by decide) rfl (fun ls hl => ?_)
  refine lv_iload_n hx hb d_De_decode_5 rfl (lv_at hl 0 rfl) ?_
  refine lv_iconst (v := (-1 : Int32)) hx hb d_De_decode_6 (by decide) ?_
  refine lv_icmp_eq (tgt := 12) hx hb d_De_decode_7 (by decide) (fun c2 => ?_) (fun c2 => ?_)
  · have h := ok_t h c2
    refine lv_aload_n hx hb d_De_decode_12 rfl (lv_at hl 1 rfl) ?_
    refine gfK_5_opcode C0 hw fl_De_23 d_De_decode_13 ?_
    refine lv_sipush (v := (256 : Int32)) hx hb d_De_decode_16 (by decide) ?_
    refine lv_icmp_ge (tgt := 32) hx hb d_De_decode_19 (by decide) (fun c3 => ?_) (fun c3 => ?_)
    · have h := ok_t h c3
      refine lv_aload_n hx hb d_De_decode_32 rfl (lv_at hl 1 rfl) ?_
      refine gfK_5_opcode C0 hw fl_De_23 d_De_decode_33 ?_
      refine lv_sipush (v := (256 : Int32)) hx hb d_De_decode_36 (by decide) ?_
      refine lv_isub hx hb d_De_decode_39 ?_
      obtain ⟨r4, er4, h⟩ := ok_b h
      refine z_si (rest := []) C0 hw (c_De_formOfTwo ((z_gI r1.2 11) - (256 : Int32)) r1.2 r4 er4) mw_De_formOfTwo ml_De_31 ⟨Nat.le_of_ble_eq_true rfl, Nat.le_of_ble_eq_true rfl⟩ ⟨Nat.le_refl 0, Nat.le_refl 0⟩ rfl hl.1 rfl (Nat.le_of_ble_eq_true rfl) d_De_decode_40 (fun H locs hw => ?_)
      exact w_De_decode_43 o C0 r1.2 r1.1 r4 h H locs ls hw (lv_sub hl [1, 0] rfl)
    · have h := ok_f h c3
      refine lv_aload_n hx hb d_De_decode_22 rfl (lv_at hl 1 rfl) ?_
      refine gfK_5_opcode C0 hw fl_De_23 d_De_decode_23 ?_
      obtain ⟨r19, er19, h⟩ := ok_b h
      refine z_si (rest := []) C0 hw (c_De_formOfOne (z_gI r1.2 11) r1.2 r19 er19) mw_De_formOfOne ml_De_27 ⟨Nat.le_of_ble_eq_true rfl, Nat.le_of_ble_eq_true rfl⟩ ⟨Nat.le_refl 0, Nat.le_refl 0⟩ rfl hl.1 rfl (Nat.le_of_ble_eq_true rfl) d_De_decode_26 (fun H locs hw => ?_)
      refine lv_goto (tgt := 43) hx hb d_De_decode_29 (by decide) ?_
      exact w_De_decode_43 o C0 r1.2 r1.1 r19 h H locs ls hw (lv_sub hl [1, 0] rfl)
  · have h := ok_f h c2
    refine lv_iload_n hx hb d_De_decode_10 rfl (lv_at hl 0 rfl) ?_
    have ho := Option.some.inj h
    subst ho
    exact z_rti C0 hw d_De_decode_11
def f_De_registerO (q : z_Sg) : Option Int32 :=
  (f_De_extension (1 : Int32) q).bind (fun r1 => some (((z_gI q 11) &&& (7 : Int32)) ||| r1))
set_option maxHeartbeats 4000000 in
set_option maxRecDepth 100000 in
theorem c_De_registerO {l : Launch} {D : va_G} {ad : Nat → Nat} {ca : Nat → ClassId} (q : z_Sg) (o : Int32) (h : f_De_registerO q = some o) : z_ci l y_De_registerO b_De_registerO 1 (some .int) 1 21 D (z_Kt ca) (z_K ad ca q) (z_K ad ca q) [.ref (ad 5)] o := by
  refine z_ci_of (own := z_RDe) (by decide) rfl ?_
  intro p e s m below meth c A C0 hw
  obtain ⟨hx, hb, hr, hlk, hml, hown, hts, hK, hA⟩ := id C0
  generalize hH : s.heap = H at hw ⊢
  generalize hlo : ([] : List Loc) = locs at hw ⊢
  refine z_entry (lv := [(0, .ref (ad 5))]) (Nat.le_of_ble_eq_true rfl) rfl (fun ls hl => ?_)
  unfold f_De_registerO at h
  refine lv_aload_n hx hb d_De_registerO_0 rfl (lv_at hl 0 rfl) ?_
  refine gfK_5_opcode C0 hw fl_De_23 d_De_registerO_1 ?_
  refine lv_bipush (v := (7 : Int32)) hx hb d_De_registerO_4 (by decide) ?_
  refine lv_iand hx hb d_De_registerO_6 ?_
  refine lv_aload_n hx hb d_De_registerO_7 rfl (lv_at hl 0 rfl) ?_
  refine lv_iconst (v := (1 : Int32)) hx hb d_De_registerO_8 (by decide) ?_
  obtain ⟨r1, er1, h⟩ := ok_b h
  refine z_vi (rest := [.int ((z_gI q 11) &&& (7 : Int32))]) C0 hw (c_De_extension (1 : Int32) q r1 er1) mw_De_extension ml_De_113 5 rfl ⟨Nat.le_of_ble_eq_true rfl, Nat.le_of_ble_eq_true rfl⟩ ⟨Nat.le_refl 0, Nat.le_refl 0⟩ rfl hl.1 rfl (Nat.le_of_ble_eq_true rfl) d_De_registerO_9 (fun H locs hw => ?_)
  refine lv_ior hx hb d_De_registerO_12 ?_
  have ho := Option.some.inj h
  subst ho
  exact z_rti C0 hw d_De_registerO_13
def k_Op_isUpperByte_31 (t0 : Int32) (q : z_Sg) : Option Int32 :=
  z_gd (z_bo t0) (some t0)
def k_Op_isUpperByte_30 (q : z_Sg) : Option Int32 :=
  k_Op_isUpperByte_31 (0 : Int32) q
def f_Op_isUpperByte (x1 : Int32) (x2 : Int32) (q : z_Sg) : Option Int32 :=
  if x2 = (1 : Int32) then (if (z_gI q 6) = 0 then (if x1 < (4 : Int32) then (k_Op_isUpperByte_30 q) else (if (8 : Int32) ≤ x1 then (k_Op_isUpperByte_30 q) else (k_Op_isUpperByte_31 (1 : Int32) q))) else (k_Op_isUpperByte_30 q)) else (k_Op_isUpperByte_30 q)
set_option maxHeartbeats 4000000 in
set_option maxRecDepth 100000 in
theorem w_Op_isUpperByte_31 {p : Program} {l : Launch} {e : Env} {s : State} {m : MethodId} {args : Array Value} {below : List Frame} {meth : Method} {c : Code} {D : va_G} {A : Nat → Prop} {ad : Nat → Nat} {ca : Nat → ClassId} (o : Int32) (C0 : z_cx z_ROp b_Op_isUpperByte 3 (some .boolean) D (z_Kt ca) A p s m args meth c) (q : z_Sg) (t0 : Int32) (h : k_Op_isUpperByte_31 t0 q = some o) : ∀ (H : Heap) (locs : List Loc) (ls : Array Slot), z_wd D (z_K ad ca q) A s H locs → lv_has ls 3 [] → W p l e (z_rm 0 0) s m args below meth c H locs 0 0 (z_qi below D (z_Kt ca) (z_K ad ca q) A s args o) (F0 m 31 ls [.int t0]) := by
  obtain ⟨hx, hb, hr, hlk, hml, hown, hts, hK, hA⟩ := id C0
  intro H locs ls hw hl
  obtain ⟨b2, h⟩ := ok_G h
  have ho := Option.some.inj h
  subst ho
  exact z_rtz C0 hw (z_bo_n b2) d_Op_isUpperByte_31
set_option maxHeartbeats 4000000 in
set_option maxRecDepth 100000 in
theorem w_Op_isUpperByte_30 {p : Program} {l : Launch} {e : Env} {s : State} {m : MethodId} {args : Array Value} {below : List Frame} {meth : Method} {c : Code} {D : va_G} {A : Nat → Prop} {ad : Nat → Nat} {ca : Nat → ClassId} (o : Int32) (C0 : z_cx z_ROp b_Op_isUpperByte 3 (some .boolean) D (z_Kt ca) A p s m args meth c) (q : z_Sg) (h : k_Op_isUpperByte_30 q = some o) : ∀ (H : Heap) (locs : List Loc) (ls : Array Slot), z_wd D (z_K ad ca q) A s H locs → lv_has ls 3 [] → W p l e (z_rm 0 0) s m args below meth c H locs 0 0 (z_qi below D (z_Kt ca) (z_K ad ca q) A s args o) (F0 m 30 ls []) := by
  obtain ⟨hx, hb, hr, hlk, hml, hown, hts, hK, hA⟩ := id C0
  intro H locs ls hw hl
  refine lv_iconst (v := (0 : Int32)) hx hb d_Op_isUpperByte_30 (by decide) ?_
  exact w_Op_isUpperByte_31 o C0 q (0 : Int32) h H locs ls hw (lv_sub hl [] rfl)
set_option maxHeartbeats 4000000 in
set_option maxRecDepth 100000 in
theorem c_Op_isUpperByte {l : Launch} {D : va_G} {ad : Nat → Nat} {ca : Nat → ClassId} (x1 : Int32) (x2 : Int32) (q : z_Sg) (o : Int32) (h : f_Op_isUpperByte x1 x2 q = some o) : z_ci l y_Op_isUpperByte b_Op_isUpperByte 3 (some .boolean) 0 0 D (z_Kt ca) (z_K ad ca q) (z_K ad ca q) [.ref (ad 6), .int x1, .int x2] o := by
  refine z_ci_of (own := z_ROp) (by decide) rfl ?_
  intro p e s m below meth c A C0 hw
  obtain ⟨hx, hb, hr, hlk, hml, hown, hts, hK, hA⟩ := id C0
  generalize hH : s.heap = H at hw ⊢
  generalize hlo : ([] : List Loc) = locs at hw ⊢
  refine z_entry (lv := [(0, .ref (ad 6)), (1, .int x1), (2, .int x2)]) (Nat.le_of_ble_eq_true rfl) rfl (fun ls hl => ?_)
  unfold f_Op_isUpperByte at h
  refine lv_iload_n hx hb d_Op_isUpperByte_0 rfl (lv_at hl 2 rfl) ?_
  refine lv_iconst (v := (1 : Int32)) hx hb d_Op_isUpperByte_1 (by decide) ?_
  refine lv_icmp_ne (tgt := 30) hx hb d_Op_isUpperByte_2 (by decide) (fun c1 => ?_) (fun c1 => ?_)
  · have h := ok_f h c1
    exact w_Op_isUpperByte_30 o C0 q h H locs ls hw (lv_sub hl [] rfl)
  · have h := ok_t h c1
    refine lv_aload_n hx hb d_Op_isUpperByte_5 rfl (lv_at hl 0 rfl) ?_
    refine gfK_6_code C0 hw fl_Op_15 d_Op_isUpperByte_6 ?_
    refine gfK_5_rex C0 hw fl_Op_138 d_Op_isUpperByte_9 ?_
    refine lv_if_ne (tgt := 30) hx hb d_Op_isUpperByte_12 (by decide) (fun c3 => ?_) (fun c3 => ?_)
    · have h := ok_f h c3
      exact w_Op_isUpperByte_30 o C0 q h H locs ls hw (lv_sub hl [] rfl)
    · have h := ok_t h c3
      refine lv_iload_n hx hb d_Op_isUpperByte_15 rfl (lv_at hl 1 rfl) ?_
      refine lv_iconst (v := (4 : Int32)) hx hb d_Op_isUpperByte_16 (by decide) ?_
      refine lv_icmp_lt (tgt := 30) hx hb d_Op_isUpperByte_17 (by decide) (fun c4 => ?_) (fun c4 => ?_)
      · have h := ok_t h c4
        exact w_Op_isUpperByte_30 o C0 q h H locs ls hw (lv_sub hl [] rfl)
      · have h := ok_f h c4
        refine lv_iload_n hx hb d_Op_isUpperByte_20 rfl (lv_at hl 1 rfl) ?_
        refine lv_bipush (v := (8 : Int32)) hx hb d_Op_isUpperByte_21 (by decide) ?_
        refine lv_icmp_ge (tgt := 30) hx hb d_Op_isUpperByte_23 (by decide) (fun c5 => ?_) (fun c5 => ?_)
        · have h := ok_t h c5
          exact w_Op_isUpperByte_30 o C0 q h H locs ls hw (lv_sub hl [] rfl)
        · have h := ok_f h c5
          refine lv_iconst (v := (1 : Int32)) hx hb d_Op_isUpperByte_26 (by decide) ?_
          refine lv_goto (tgt := 31) hx hb d_Op_isUpperByte_27 (by decide) ?_
          exact w_Op_isUpperByte_31 o C0 q (1 : Int32) h H locs ls hw (lv_sub hl [] rfl)
def k_Ar_maskOf_20 (t0 : Int64) (q : z_Sg) : Option Int64 :=
  some t0
def f_Ar_maskOf (x0 : Int32) (q : z_Sg) : Option Int64 :=
  if x0 < (8 : Int32) then (k_Ar_maskOf_20 ((z_lshl (1 : Int64) ((8 : Int32) * x0)) - (1 : Int64)) q) else (k_Ar_maskOf_20 (-1 : Int64) q)
set_option maxHeartbeats 4000000 in
set_option maxRecDepth 100000 in
theorem w_Ar_maskOf_20 {p : Program} {l : Launch} {e : Env} {s : State} {m : MethodId} {args : Array Value} {below : List Frame} {meth : Method} {c : Code} {D : va_G} {A : Nat → Prop} {ad : Nat → Nat} {ca : Nat → ClassId} (o : Int64) (C0 : z_cx z_RAr b_Ar_maskOf 1 (some .long) D (z_Kt ca) A p s m args meth c) (q : z_Sg) (t0 : Int64) (h : k_Ar_maskOf_20 t0 q = some o) : ∀ (H : Heap) (locs : List Loc) (ls : Array Slot), z_wd D (z_K ad ca q) A s H locs → lv_has ls 1 [] → W p l e (z_rm 0 0) s m args below meth c H locs 0 0 (z_ql below D (z_Kt ca) (z_K ad ca q) A s args o) (F0 m 20 ls [.long t0]) := by
  obtain ⟨hx, hb, hr, hlk, hml, hown, hts, hK, hA⟩ := id C0
  intro H locs ls hw hl
  have ho := Option.some.inj h
  subst ho
  exact z_rtl C0 hw d_Ar_maskOf_20
set_option maxHeartbeats 4000000 in
set_option maxRecDepth 100000 in
theorem c_Ar_maskOf {l : Launch} {D : va_G} {ad : Nat → Nat} {ca : Nat → ClassId} (x0 : Int32) (q : z_Sg) (o : Int64) (h : f_Ar_maskOf x0 q = some o) : z_cl l y_Ar_maskOf b_Ar_maskOf 1 (some .long) 0 0 D (z_Kt ca) (z_K ad ca q) (z_K ad ca q) [.int x0] o := by
  refine z_cl_of (own := z_RAr) (by decide) rfl ?_
  intro p e s m below meth c A C0 hw
  obtain ⟨hx, hb, hr, hlk, hml, hown, hts, hK, hA⟩ := id C0
  generalize hH : s.heap = H at hw ⊢
  generalize hlo : ([] : List Loc) = locs at hw ⊢
  refine z_entry (lv := [(0, .int x0)]) (Nat.le_of_ble_eq_true rfl) rfl (fun ls hl => ?_)
  unfold f_Ar_maskOf at h
  refine lv_iload_n hx hb d_Ar_maskOf_0 rfl (lv_at hl 0 rfl) ?_
  refine lv_bipush (v := (8 : Int32)) hx hb d_Ar_maskOf_1 (by decide) ?_
  refine lv_icmp_lt (tgt := 12) hx hb d_Ar_maskOf_3 (by decide) (fun c1 => ?_) (fun c1 => ?_)
  · have h := ok_t h c1
    refine lv_lconst (v := (1 : Int64)) hx hb d_Ar_maskOf_12 (by decide) ?_
    refine lv_bipush (v := (8 : Int32)) hx hb d_Ar_maskOf_13 (by decide) ?_
    refine lv_iload_n hx hb d_Ar_maskOf_15 rfl (lv_at hl 0 rfl) ?_
    refine lv_imul hx hb d_Ar_maskOf_16 ?_
    refine lv_lshl (v := (z_lshl (1 : Int64) ((8 : Int32) * x0))) hx hb d_Ar_maskOf_17 rfl ?_
    refine lv_lconst (v := (1 : Int64)) hx hb d_Ar_maskOf_18 (by decide) ?_
    refine lv_lsub hx hb d_Ar_maskOf_19 ?_
    exact w_Ar_maskOf_20 o C0 q ((z_lshl (1 : Int64) ((8 : Int32) * x0)) - (1 : Int64)) h H locs ls hw (lv_sub hl [] rfl)
  · have h := ok_f h c1
    refine lv_ldc2 (own := z_RAr) hx hb hown (hts _ kl_Ar_15) d_Ar_maskOf_6 ?_
    refine lv_goto (tgt := 20) hx hb d_Ar_maskOf_9 (by decide) ?_
    exact w_Ar_maskOf_20 o C0 q (-1 : Int64) h H locs ls hw (lv_sub hl [] rfl)
def f_Op_part (x1 : Int32) (x2 : Int32) (q : z_Sg) : Option Int64 :=
  (f_Op_isUpperByte x1 x2 q).bind (fun r1 => if r1 = 0 then (if z_bad (x1 &&& (15 : Int32)) 16 then none else ((f_Ar_maskOf x2 q).bind (fun r4 => some ((z_gM q 0 (x1 &&& (15 : Int32)).toNatClampNeg) &&& r4)))) else (if z_bad (x1 &&& (3 : Int32)) 16 then none else (some ((z_lushr (z_gM q 0 (x1 &&& (3 : Int32)).toNatClampNeg) (8 : Int32)) &&& (255 : Int64)))))
set_option maxHeartbeats 4000000 in
set_option maxRecDepth 100000 in
theorem c_Op_part {l : Launch} {D : va_G} {ad : Nat → Nat} {ca : Nat → ClassId} (x1 : Int32) (x2 : Int32) (q : z_Sg) (o : Int64) (h : f_Op_part x1 x2 q = some o) : z_cl l y_Op_part b_Op_part 3 (some .long) 1 22 D (z_Kt ca) (z_K ad ca q) (z_K ad ca q) [.ref (ad 6), .int x1, .int x2] o := by
  refine z_cl_of (own := z_ROp) (by decide) rfl ?_
  intro p e s m below meth c A C0 hw
  obtain ⟨hx, hb, hr, hlk, hml, hown, hts, hK, hA⟩ := id C0
  generalize hH : s.heap = H at hw ⊢
  generalize hlo : ([] : List Loc) = locs at hw ⊢
  refine z_entry (lv := [(0, .ref (ad 6)), (1, .int x1), (2, .int x2)]) (Nat.le_of_ble_eq_true rfl) rfl (fun ls hl => ?_)
  unfold f_Op_part at h
  refine lv_aload_n hx hb d_Op_part_0 rfl (lv_at hl 0 rfl) ?_
  refine lv_iload_n hx hb d_Op_part_1 rfl (lv_at hl 1 rfl) ?_
  refine lv_iload_n hx hb d_Op_part_2 rfl (lv_at hl 2 rfl) ?_
  obtain ⟨r1, er1, h⟩ := ok_b h
  refine z_vi (rest := []) C0 hw (c_Op_isUpperByte x1 x2 q r1 er1) mw_Op_isUpperByte ml_Op_119 6 rfl ⟨Nat.le_of_ble_eq_true rfl, Nat.le_of_ble_eq_true rfl⟩ ⟨Nat.le_refl 0, Nat.le_refl 0⟩ rfl hl.1 rfl (Nat.le_of_ble_eq_true rfl) d_Op_part_3 (fun H locs hw => ?_)
  refine lv_if_eq (tgt := 28) hx hb d_Op_part_6 (by decide) (fun c2 => ?_) (fun c2 => ?_)
  · have h := ok_t h c2
    refine lv_aload_n hx hb d_Op_part_28 rfl (lv_at hl 0 rfl) ?_
    refine gfK_6_state C0 hw fl_Op_9 d_Op_part_29 ?_
    refine gfK_1_registers C0 hw fl_Op_123 d_Op_part_32 ?_
    refine lv_iload_n hx hb d_Op_part_35 rfl (lv_at hl 1 rfl) ?_
    refine lv_bipush (v := (15 : Int32)) hx hb d_Op_part_36 (by decide) ?_
    refine lv_iand hx hb d_Op_part_38 ?_
    obtain ⟨b3, h⟩ := ok_g h
    refine alK_2 C0 hw b3 d_Op_part_39 ?_
    refine lv_iload_n hx hb d_Op_part_40 rfl (lv_at hl 2 rfl) ?_
    obtain ⟨r4, er4, h⟩ := ok_b h
    refine z_sl (rest := [.long (z_gM q 0 (x1 &&& (15 : Int32)).toNatClampNeg)]) C0 hw (c_Ar_maskOf x2 q r4 er4) mw_Ar_maskOf ml_Op_131 ⟨Nat.le_of_ble_eq_true rfl, Nat.le_of_ble_eq_true rfl⟩ ⟨Nat.le_refl 0, Nat.le_refl 0⟩ rfl hl.1 rfl (Nat.le_of_ble_eq_true rfl) d_Op_part_41 (fun H locs hw => ?_)
    refine lv_land hx hb d_Op_part_44 ?_
    have ho := Option.some.inj h
    subst ho
    exact z_rtl C0 hw d_Op_part_45
  · have h := ok_f h c2
    refine lv_aload_n hx hb d_Op_part_9 rfl (lv_at hl 0 rfl) ?_
    refine gfK_6_state C0 hw fl_Op_9 d_Op_part_10 ?_
    refine gfK_1_registers C0 hw fl_Op_123 d_Op_part_13 ?_
    refine lv_iload_n hx hb d_Op_part_16 rfl (lv_at hl 1 rfl) ?_
    refine lv_iconst (v := (3 : Int32)) hx hb d_Op_part_17 (by decide) ?_
    refine lv_iand hx hb d_Op_part_18 ?_
    obtain ⟨b5, h⟩ := ok_g h
    refine alK_2 C0 hw b5 d_Op_part_19 ?_
    refine lv_bipush (v := (8 : Int32)) hx hb d_Op_part_20 (by decide) ?_
    refine lv_lushr (v := (z_lushr (z_gM q 0 (x1 &&& (3 : Int32)).toNatClampNeg) (8 : Int32))) hx hb d_Op_part_22 rfl ?_
    refine lv_ldc2 (own := z_ROp) hx hb hown (hts _ kl_Op_129) d_Op_part_23 ?_
    refine lv_land hx hb d_Op_part_26 ?_
    have ho := Option.some.inj h
    subst ho
    exact z_rtl C0 hw d_Op_part_27
def k_De_sizeOnStack_14 (t0 : Int32) (q : z_Sg) : Option Int32 :=
  some t0
def f_De_sizeOnStack (q : z_Sg) : Option Int32 :=
  (f_De_sizeV q).bind (fun r1 => if r1 = (2 : Int32) then (k_De_sizeOnStack_14 (2 : Int32) q) else (k_De_sizeOnStack_14 (8 : Int32) q))
set_option maxHeartbeats 4000000 in
set_option maxRecDepth 100000 in
theorem w_De_sizeOnStack_14 {p : Program} {l : Launch} {e : Env} {s : State} {m : MethodId} {args : Array Value} {below : List Frame} {meth : Method} {c : Code} {D : va_G} {A : Nat → Prop} {ad : Nat → Nat} {ca : Nat → ClassId} (o : Int32) (C0 : z_cx z_RDe b_De_sizeOnStack 1 (some .int) D (z_Kt ca) A p s m args meth c) (q : z_Sg) (t0 : Int32) (h : k_De_sizeOnStack_14 t0 q = some o) : ∀ (H : Heap) (locs : List Loc) (ls : Array Slot), z_wd D (z_K ad ca q) A s H locs → lv_has ls 1 [] → W p l e (z_rm 1 20) s m args below meth c H locs 0 0 (z_qi below D (z_Kt ca) (z_K ad ca q) A s args o) (F0 m 14 ls [.int t0]) := by
  obtain ⟨hx, hb, hr, hlk, hml, hown, hts, hK, hA⟩ := id C0
  intro H locs ls hw hl
  have ho := Option.some.inj h
  subst ho
  exact z_rti C0 hw d_De_sizeOnStack_14
set_option maxHeartbeats 4000000 in
set_option maxRecDepth 100000 in
theorem c_De_sizeOnStack {l : Launch} {D : va_G} {ad : Nat → Nat} {ca : Nat → ClassId} (q : z_Sg) (o : Int32) (h : f_De_sizeOnStack q = some o) : z_ci l y_De_sizeOnStack b_De_sizeOnStack 1 (some .int) 1 20 D (z_Kt ca) (z_K ad ca q) (z_K ad ca q) [.ref (ad 5)] o := by
  refine z_ci_of (own := z_RDe) (by decide) rfl ?_
  intro p e s m below meth c A C0 hw
  obtain ⟨hx, hb, hr, hlk, hml, hown, hts, hK, hA⟩ := id C0
  generalize hH : s.heap = H at hw ⊢
  generalize hlo : ([] : List Loc) = locs at hw ⊢
  refine z_entry (lv := [(0, .ref (ad 5))]) (Nat.le_of_ble_eq_true rfl) rfl (fun ls hl => ?_)
  unfold f_De_sizeOnStack at h
  refine lv_aload_n hx hb d_De_sizeOnStack_0 rfl (lv_at hl 0 rfl) ?_
  obtain ⟨r1, er1, h⟩ := ok_b h
  refine z_vi (rest := []) C0 hw (c_De_sizeV q r1 er1) mw_De_sizeV ml_De_100 5 rfl ⟨Nat.le_of_ble_eq_true rfl, Nat.le_of_ble_eq_true rfl⟩ ⟨Nat.le_refl 0, Nat.le_refl 0⟩ rfl hl.1 rfl (Nat.le_of_ble_eq_true rfl) d_De_sizeOnStack_1 (fun H locs hw => ?_)
  refine lv_iconst (v := (2 : Int32)) hx hb d_De_sizeOnStack_4 (by decide) ?_
  refine lv_icmp_ne (tgt := 12) hx hb d_De_sizeOnStack_5 (by decide) (fun c2 => ?_) (fun c2 => ?_)
  · have h := ok_f h c2
    refine lv_bipush (v := (8 : Int32)) hx hb d_De_sizeOnStack_12 (by decide) ?_
    exact w_De_sizeOnStack_14 o C0 q (8 : Int32) h H locs ls hw (lv_sub hl [] rfl)
  · have h := ok_t h c2
    refine lv_iconst (v := (2 : Int32)) hx hb d_De_sizeOnStack_8 (by decide) ?_
    refine lv_goto (tgt := 14) hx hb d_De_sizeOnStack_9 (by decide) ?_
    exact w_De_sizeOnStack_14 o C0 q (2 : Int32) h H locs ls hw (lv_sub hl [] rfl)
def k_Sp_find_12_128 (ih16 : Int64 × Int32 × Int32 × Int32 × z_Sg → Option (Int32 × z_Sg)) (x1 : Int64) (x4 : Int32) (x5 : Int32) (x6 : Int32) (q : z_Sg) : Option (Int32 × z_Sg) :=
  z_nm (x6 + (1 : Int32)) (fun n11 => ih16 (x1, x4, x5, n11, q))
def k_Sp_find_12_124 (t1 : Int64) (t2 : Int64) (t3 : Int32) (q : z_Sg) : Option (Int32 × z_Sg) :=
  (f_Pa_refusal t1 t2 t3 q).bind (fun r14 => some (r14.1, r14.2))
def k_Sp_find_12_69 (ih16 : Int64 × Int32 × Int32 × Int32 × z_Sg → Option (Int32 × z_Sg)) (x1 : Int64) (x4 : Int32) (x5 : Int32) (x6 : Int32) (x7 : Int64) (q : z_Sg) : Option (Int32 × z_Sg) :=
  (f_Pa_locate x7 x4 q).bind (fun r6 => if z_bad x6 8 then none else (z_nm (z_sM q 3 x6.toNatClampNeg r6) (fun q8 => if z_bad x6 8 then none else (if (0 : Int64) ≤ (z_gM q8 3 x6.toNatClampNeg) then (k_Sp_find_12_128 ih16 x1 x4 x5 x6 q8) else (if z_bad x6 8 then none else (if x5 = 0 then (k_Sp_find_12_124 x7 (z_gM q8 3 x6.toNatClampNeg) (13 : Int32) q8) else (k_Sp_find_12_124 x7 (z_gM q8 3 x6.toNatClampNeg) (12 : Int32) q8)))))))
def kb_Sp_find_12_16 (ih16 : Int64 × Int32 × Int32 × Int32 × z_Sg → Option (Int32 × z_Sg)) (x1 : Int64) (x4 : Int32) (x5 : Int32) (x6 : Int32) (q : z_Sg) : Option (Int32 × z_Sg) :=
  if (z_gI q 17) ≤ x6 then (some ((-1 : Int32), q)) else (z_nm ((x1 + (x6.toInt64))) (fun n4 => if x6 ≤ 0 then (k_Sp_find_12_69 ih16 x1 x4 x5 x6 n4 q) else (if (n4 &&& (4095 : Int64)) = (0 : Int64) then (k_Sp_find_12_69 ih16 x1 x4 x5 x6 n4 q) else (if z_bad (x6 - (1 : Int32)) 8 then none else (if z_bad x6 8 then none else (z_nm (z_sM q 3 x6.toNatClampNeg ((z_gM q 3 (x6 - (1 : Int32)).toNatClampNeg) + (1 : Int64))) (fun q18 => k_Sp_find_12_128 ih16 x1 x4 x5 x6 q18)))))))
def k_Sp_find_12_16 (x1 : Int64) (x4 : Int32) (x5 : Int32) (x6 : Int32) (q : z_Sg) : Option (Int32 × z_Sg) := z_lo (fun ih16 a => kb_Sp_find_12_16 ih16 a.1 a.2.1 a.2.2.1 a.2.2.2.1 a.2.2.2.2) 2000 (x1, x4, x5, x6, q)
def f_Sp_find_12 (x1 : Int64) (x3 : Int32) (x4 : Int32) (x5 : Int32) (q : z_Sg) : Option (Int32 × z_Sg) :=
  (f_Ma_min x3 (8 : Int32) q).bind (fun r1 => z_nm (z_sI q 17 r1) (fun q2 => k_Sp_find_12_16 x1 x4 x5 (0 : Int32) q2))
set_option maxHeartbeats 4000000 in
set_option maxRecDepth 100000 in
theorem w_Sp_find_12_128 {p : Program} {l : Launch} {e : Env} {s : State} {m : MethodId} {args : Array Value} {below : List Frame} {meth : Method} {c : Code} {D : va_G} {A : Nat → Prop} {ad : Nat → Nat} {ca : Nat → ClassId} (o : (Int32 × z_Sg)) (C0 : z_cx z_RSp b_Sp_find 9 (some .int) D (z_Kt ca) A p s m args meth c) (q : z_Sg) (ih16 : Int64 × Int32 × Int32 × Int32 × z_Sg → Option (Int32 × z_Sg)) (hi16 : ∀ a : Int64 × Int32 × Int32 × Int32 × z_Sg, ih16 a = some o → ∀ (H : Heap) (locs : List Loc) (ls : Array Slot), z_wd D (z_K ad ca a.2.2.2.2) A s H locs → lv_has ls 9 [(0, .ref (ad 12)), (1, .long a.1), (4, .int a.2.1), (5, .int a.2.2.1), (6, .int a.2.2.2.1)] → W p l e (z_rm 2 61) s m args below meth c H locs 0 0 (z_qi below D (z_Kt ca) (z_K ad ca o.2) A s args o.1) (F0 m 16 ls [])) (x1 : Int64) (x4 : Int32) (x5 : Int32) (x6 : Int32) (h : k_Sp_find_12_128 ih16 x1 x4 x5 x6 q = some o) : ∀ (H : Heap) (locs : List Loc) (ls : Array Slot), z_wd D (z_K ad ca q) A s H locs → lv_has ls 9 [(0, .ref (ad 12)), (1, .long x1), (4, .int x4), (5, .int x5), (6, .int x6)] → W p l e (z_rm 2 61) s m args below meth c H locs 0 0 (z_qi below D (z_Kt ca) (z_K ad ca o.2) A s args o.1) (F0 m 128 ls []) := by
  obtain ⟨hx, hb, hr, hlk, hml, hown, hts, hK, hA⟩ := id C0
  intro H locs ls hw hl
  obtain ⟨n11, en11, h⟩ := ok_n h
  refine lv_iinc (v := n11) (lv' := [(6, .int n11), (0, .ref (ad 12)), (1, .long x1), (4, .int x4), (5, .int x5)]) hx hb d_Sp_find_128 hl (k := 4) rfl (by rw [en11]; rfl) (by decide) rfl (fun ls hl => ?_)
  refine lv_goto (tgt := 16) hx hb d_Sp_find_131 (by decide) ?_
  exact hi16 (x1, x4, x5, n11, q) h H locs ls hw (lv_sub hl [1, 2, 3, 4, 0] rfl)
set_option maxHeartbeats 4000000 in
set_option maxRecDepth 100000 in
theorem w_Sp_find_12_124 {p : Program} {l : Launch} {e : Env} {s : State} {m : MethodId} {args : Array Value} {below : List Frame} {meth : Method} {c : Code} {D : va_G} {A : Nat → Prop} {ad : Nat → Nat} {ca : Nat → ClassId} (o : (Int32 × z_Sg)) (C0 : z_cx z_RSp b_Sp_find 9 (some .int) D (z_Kt ca) A p s m args meth c) (q : z_Sg) (t1 : Int64) (t2 : Int64) (t3 : Int32) (h : k_Sp_find_12_124 t1 t2 t3 q = some o) : ∀ (H : Heap) (locs : List Loc) (ls : Array Slot), z_wd D (z_K ad ca q) A s H locs → lv_has ls 9 [] → W p l e (z_rm 2 61) s m args below meth c H locs 0 0 (z_qi below D (z_Kt ca) (z_K ad ca o.2) A s args o.1) (F0 m 124 ls [.int t3, .long t2, .long t1, .ref (ad 3)]) := by
  obtain ⟨hx, hb, hr, hlk, hml, hown, hts, hK, hA⟩ := id C0
  intro H locs ls hw hl
  obtain ⟨r14, er14, h⟩ := ok_b h
  refine z_vi (rest := []) C0 hw (c_Pa_refusal t1 t2 t3 q r14 er14) mw_Pa_refusal ml_Sp_37 3 rfl ⟨Nat.le_of_ble_eq_true rfl, Nat.le_of_ble_eq_true rfl⟩ ⟨Nat.le_refl 0, Nat.le_refl 0⟩ rfl hl.1 rfl (Nat.le_of_ble_eq_true rfl) d_Sp_find_124 (fun H locs hw => ?_)
  have ho := Option.some.inj h
  subst ho
  exact z_rti C0 hw d_Sp_find_127
set_option maxHeartbeats 4000000 in
set_option maxRecDepth 100000 in
theorem w_Sp_find_12_69 {p : Program} {l : Launch} {e : Env} {s : State} {m : MethodId} {args : Array Value} {below : List Frame} {meth : Method} {c : Code} {D : va_G} {A : Nat → Prop} {ad : Nat → Nat} {ca : Nat → ClassId} (o : (Int32 × z_Sg)) (C0 : z_cx z_RSp b_Sp_find 9 (some .int) D (z_Kt ca) A p s m args meth c) (q : z_Sg) (ih16 : Int64 × Int32 × Int32 × Int32 × z_Sg → Option (Int32 × z_Sg)) (hi16 : ∀ a : Int64 × Int32 × Int32 × Int32 × z_Sg, ih16 a = some o → ∀ (H : Heap) (locs : List Loc) (ls : Array Slot), z_wd D (z_K ad ca a.2.2.2.2) A s H locs → lv_has ls 9 [(0, .ref (ad 12)), (1, .long a.1), (4, .int a.2.1), (5, .int a.2.2.1), (6, .int a.2.2.2.1)] → W p l e (z_rm 2 61) s m args below meth c H locs 0 0 (z_qi below D (z_Kt ca) (z_K ad ca o.2) A s args o.1) (F0 m 16 ls [])) (x1 : Int64) (x4 : Int32) (x5 : Int32) (x6 : Int32) (x7 : Int64) (h : k_Sp_find_12_69 ih16 x1 x4 x5 x6 x7 q = some o) : ∀ (H : Heap) (locs : List Loc) (ls : Array Slot), z_wd D (z_K ad ca q) A s H locs → lv_has ls 9 [(0, .ref (ad 12)), (1, .long x1), (4, .int x4), (5, .int x5), (6, .int x6), (7, .long x7)] → W p l e (z_rm 2 61) s m args below meth c H locs 0 0 (z_qi below D (z_Kt ca) (z_K ad ca o.2) A s args o.1) (F0 m 69 ls []) := by
  obtain ⟨hx, hb, hr, hlk, hml, hown, hts, hK, hA⟩ := id C0
  intro H locs ls hw hl
  refine lv_aload_n hx hb d_Sp_find_69 rfl (lv_at hl 0 rfl) ?_
  refine gfK_12_at C0 hw fl_Sp_9 d_Sp_find_70 ?_
  refine lv_iload hx hb d_Sp_find_73 (lv_at hl 4 rfl) ?_
  refine lv_aload_n hx hb d_Sp_find_75 rfl (lv_at hl 0 rfl) ?_
  refine gfK_12_pages C0 hw fl_Sp_15 d_Sp_find_76 ?_
  refine lv_lload hx hb d_Sp_find_79 (lv_at hl 5 rfl) ?_
  refine lv_iload hx hb d_Sp_find_81 (lv_at hl 2 rfl) ?_
  obtain ⟨r6, er6, h⟩ := ok_b h
  refine z_vl (rest := [.int x6, .ref (ad 13)]) C0 hw (c_Pa_locate x7 x4 q r6 er6) mw_Pa_locate ml_Sp_33 3 rfl ⟨Nat.le_of_ble_eq_true rfl, Nat.le_of_ble_eq_true rfl⟩ ⟨Nat.le_refl 0, Nat.le_refl 0⟩ rfl hl.1 rfl (Nat.le_of_ble_eq_true rfl) d_Sp_find_83 (fun H locs hw => ?_)
  obtain ⟨b7, h⟩ := ok_g h
  refine asK_13 C0 hw b7 d_Sp_find_86 (fun H locs hw => ?_)
  obtain ⟨q8, eq8, h⟩ := ok_n h
  rw [← eq8] at hw
  refine lv_aload_n hx hb d_Sp_find_87 rfl (lv_at hl 0 rfl) ?_
  refine gfK_12_at C0 hw fl_Sp_9 d_Sp_find_88 ?_
  refine lv_iload hx hb d_Sp_find_91 (lv_at hl 4 rfl) ?_
  obtain ⟨b9, h⟩ := ok_g h
  refine alK_13 C0 hw b9 d_Sp_find_93 ?_
  refine lv_lconst (v := (0 : Int64)) hx hb d_Sp_find_94 (by decide) ?_
  refine W.lcmp hx hb d_Sp_find_95 ?_
  refine lv_if_ge (tgt := 128) hx hb d_Sp_find_96 (by decide) (fun c10 => ?_) (fun c10 => ?_)
  · have h := ok_t h ((lg_cmp_ge _ _).mp c10)
    exact w_Sp_find_12_128 o C0 q8 ih16 hi16 x1 x4 x5 x6 h H locs ls hw (lv_sub hl [0, 1, 2, 3, 4] rfl)
  · have h := ok_f h (fun z => c10 ((lg_cmp_ge _ _).mpr z))
    refine lv_aload_n hx hb d_Sp_find_99 rfl (lv_at hl 0 rfl) ?_
    refine gfK_12_pages C0 hw fl_Sp_15 d_Sp_find_100 ?_
    refine lv_lload hx hb d_Sp_find_103 (lv_at hl 5 rfl) ?_
    refine lv_aload_n hx hb d_Sp_find_105 rfl (lv_at hl 0 rfl) ?_
    refine gfK_12_at C0 hw fl_Sp_9 d_Sp_find_106 ?_
    refine lv_iload hx hb d_Sp_find_109 (lv_at hl 4 rfl) ?_
    obtain ⟨b12, h⟩ := ok_g h
    refine alK_13 C0 hw b12 d_Sp_find_111 ?_
    refine lv_iload hx hb d_Sp_find_112 (lv_at hl 3 rfl) ?_
    refine lv_if_eq (tgt := 122) hx hb d_Sp_find_114 (by decide) (fun c13 => ?_) (fun c13 => ?_)
    · have h := ok_t h c13
      refine lv_bipush (v := (13 : Int32)) hx hb d_Sp_find_122 (by decide) ?_
      exact w_Sp_find_12_124 o C0 q8 x7 (z_gM q8 3 x6.toNatClampNeg) (13 : Int32) h H locs ls hw (lv_sub hl [] rfl)
    · have h := ok_f h c13
      refine lv_bipush (v := (12 : Int32)) hx hb d_Sp_find_117 (by decide) ?_
      refine lv_goto (tgt := 124) hx hb d_Sp_find_119 (by decide) ?_
      exact w_Sp_find_12_124 o C0 q8 x7 (z_gM q8 3 x6.toNatClampNeg) (12 : Int32) h H locs ls hw (lv_sub hl [] rfl)
set_option maxHeartbeats 4000000 in
set_option maxRecDepth 100000 in
theorem wb_Sp_find_12_16 {p : Program} {l : Launch} {e : Env} {s : State} {m : MethodId} {args : Array Value} {below : List Frame} {meth : Method} {c : Code} {D : va_G} {A : Nat → Prop} {ad : Nat → Nat} {ca : Nat → ClassId} (o : (Int32 × z_Sg)) (C0 : z_cx z_RSp b_Sp_find 9 (some .int) D (z_Kt ca) A p s m args meth c) (q : z_Sg) (ih16 : Int64 × Int32 × Int32 × Int32 × z_Sg → Option (Int32 × z_Sg)) (hi16 : ∀ a : Int64 × Int32 × Int32 × Int32 × z_Sg, ih16 a = some o → ∀ (H : Heap) (locs : List Loc) (ls : Array Slot), z_wd D (z_K ad ca a.2.2.2.2) A s H locs → lv_has ls 9 [(0, .ref (ad 12)), (1, .long a.1), (4, .int a.2.1), (5, .int a.2.2.1), (6, .int a.2.2.2.1)] → W p l e (z_rm 2 61) s m args below meth c H locs 0 0 (z_qi below D (z_Kt ca) (z_K ad ca o.2) A s args o.1) (F0 m 16 ls [])) (x1 : Int64) (x4 : Int32) (x5 : Int32) (x6 : Int32) (h : kb_Sp_find_12_16 ih16 x1 x4 x5 x6 q = some o) : ∀ (H : Heap) (locs : List Loc) (ls : Array Slot), z_wd D (z_K ad ca q) A s H locs → lv_has ls 9 [(0, .ref (ad 12)), (1, .long x1), (4, .int x4), (5, .int x5), (6, .int x6)] → W p l e (z_rm 2 61) s m args below meth c H locs 0 0 (z_qi below D (z_Kt ca) (z_K ad ca o.2) A s args o.1) (F0 m 16 ls []) := by
  obtain ⟨hx, hb, hr, hlk, hml, hown, hts, hK, hA⟩ := id C0
  intro H locs ls hw hl
  refine lv_iload hx hb d_Sp_find_16 (lv_at hl 4 rfl) ?_
  refine lv_aload_n hx hb d_Sp_find_18 rfl (lv_at hl 0 rfl) ?_
  refine gfK_12_length C0 hw fl_Sp_25 d_Sp_find_19 ?_
  refine lv_icmp_ge (tgt := 134) hx hb d_Sp_find_22 (by decide) (fun c3 => ?_) (fun c3 => ?_)
  · have h := ok_t h c3
    refine lv_iconst (v := (-1 : Int32)) hx hb d_Sp_find_134 (by decide) ?_
    have ho := Option.some.inj h
    subst ho
    exact z_rti C0 hw d_Sp_find_135
  · have h := ok_f h c3
    refine lv_lload_n hx hb d_Sp_find_25 rfl (lv_at hl 1 rfl) ?_
    refine lv_iload hx hb d_Sp_find_26 (lv_at hl 4 rfl) ?_
    refine lv_i2l hx hb d_Sp_find_28 rfl ?_
    refine lv_ladd hx hb d_Sp_find_29 ?_
    obtain ⟨n4, en4, h⟩ := ok_n h
    refine z_tl en4 ?_
    refine lv_lstore (lv' := [(7, .long n4), (0, .ref (ad 12)), (1, .long x1), (4, .int x4), (5, .int x5), (6, .int x6)]) hx hb d_Sp_find_30 hl (by decide) rfl (fun ls hl => ?_)
    refine lv_iload hx hb d_Sp_find_32 (lv_at hl 5 rfl) ?_
    refine lv_if_le (tgt := 69) hx hb d_Sp_find_34 (by decide) (fun c5 => ?_) (fun c5 => ?_)
    · have h := ok_t h c5
      exact w_Sp_find_12_69 o C0 q ih16 hi16 x1 x4 x5 x6 n4 h H locs ls hw (lv_sub hl [1, 2, 3, 4, 5, 0] rfl)
    · have h := ok_f h c5
      refine lv_lload hx hb d_Sp_find_37 (lv_at hl 0 rfl) ?_
      refine lv_ldc2 (own := z_RSp) hx hb hown (hts _ kl_Sp_31) d_Sp_find_39 ?_
      refine lv_land hx hb d_Sp_find_42 ?_
      refine lv_lconst (v := (0 : Int64)) hx hb d_Sp_find_43 (by decide) ?_
      refine W.lcmp hx hb d_Sp_find_44 ?_
      refine lv_if_eq (tgt := 69) hx hb d_Sp_find_45 (by decide) (fun c15 => ?_) (fun c15 => ?_)
      · have h := ok_t h ((lg_cmp_eq _ _).mp c15)
        exact w_Sp_find_12_69 o C0 q ih16 hi16 x1 x4 x5 x6 n4 h H locs ls hw (lv_sub hl [1, 2, 3, 4, 5, 0] rfl)
      · have h := ok_f h (fun z => c15 ((lg_cmp_eq _ _).mpr z))
        refine lv_aload_n hx hb d_Sp_find_48 rfl (lv_at hl 1 rfl) ?_
        refine gfK_12_at C0 hw fl_Sp_9 d_Sp_find_49 ?_
        refine lv_iload hx hb d_Sp_find_52 (lv_at hl 5 rfl) ?_
        refine lv_aload_n hx hb d_Sp_find_54 rfl (lv_at hl 1 rfl) ?_
        refine gfK_12_at C0 hw fl_Sp_9 d_Sp_find_55 ?_
        refine lv_iload hx hb d_Sp_find_58 (lv_at hl 5 rfl) ?_
        refine lv_iconst (v := (1 : Int32)) hx hb d_Sp_find_60 (by decide) ?_
        refine lv_isub hx hb d_Sp_find_61 ?_
        obtain ⟨b16, h⟩ := ok_g h
        refine alK_13 C0 hw b16 d_Sp_find_62 ?_
        refine lv_lconst (v := (1 : Int64)) hx hb d_Sp_find_63 (by decide) ?_
        refine lv_ladd hx hb d_Sp_find_64 ?_
        obtain ⟨b17, h⟩ := ok_g h
        refine asK_13 C0 hw b17 d_Sp_find_65 (fun H locs hw => ?_)
        obtain ⟨q18, eq18, h⟩ := ok_n h
        rw [← eq18] at hw
        refine lv_goto (tgt := 128) hx hb d_Sp_find_66 (by decide) ?_
        exact w_Sp_find_12_128 o C0 q18 ih16 hi16 x1 x4 x5 x6 h H locs ls hw (lv_sub hl [1, 2, 3, 4, 5] rfl)
theorem w_Sp_find_12_16 {p : Program} {l : Launch} {e : Env} {s : State} {m : MethodId} {args : Array Value} {below : List Frame} {meth : Method} {c : Code} {D : va_G} {A : Nat → Prop} {ad : Nat → Nat} {ca : Nat → ClassId} (o : (Int32 × z_Sg)) (C0 : z_cx z_RSp b_Sp_find 9 (some .int) D (z_Kt ca) A p s m args meth c) (q : z_Sg) (x1 : Int64) (x4 : Int32) (x5 : Int32) (x6 : Int32) (h : k_Sp_find_12_16 x1 x4 x5 x6 q = some o) : ∀ (H : Heap) (locs : List Loc) (ls : Array Slot), z_wd D (z_K ad ca q) A s H locs → lv_has ls 9 [(0, .ref (ad 12)), (1, .long x1), (4, .int x4), (5, .int x5), (6, .int x6)] → W p l e (z_rm 2 61) s m args below meth c H locs 0 0 (z_qi below D (z_Kt ca) (z_K ad ca o.2) A s args o.1) (F0 m 16 ls []) := by
  have key : ∀ (n : Nat) (a : Int64 × Int32 × Int32 × Int32 × z_Sg), z_lo (fun ih16 a => kb_Sp_find_12_16 ih16 a.1 a.2.1 a.2.2.1 a.2.2.2.1 a.2.2.2.2) n a = some o → ∀ (H : Heap) (locs : List Loc) (ls : Array Slot), z_wd D (z_K ad ca a.2.2.2.2) A s H locs → lv_has ls 9 [(0, .ref (ad 12)), (1, .long a.1), (4, .int a.2.1), (5, .int a.2.2.1), (6, .int a.2.2.2.1)] → W p l e (z_rm 2 61) s m args below meth c H locs 0 0 (z_qi below D (z_Kt ca) (z_K ad ca o.2) A s args o.1) (F0 m 16 ls []) := by
    intro n
    induction n with
    | zero => intro a h; cases h
    | succ n ih => exact fun a h => wb_Sp_find_12_16 o C0 a.2.2.2.2 (z_lo (fun ih16 a => kb_Sp_find_12_16 ih16 a.1 a.2.1 a.2.2.1 a.2.2.2.1 a.2.2.2.2) n) ih a.1 a.2.1 a.2.2.1 a.2.2.2.1 h
  exact key 2000 (x1, x4, x5, x6, q) h
set_option maxHeartbeats 4000000 in
set_option maxRecDepth 100000 in
theorem c_Sp_find_12 {l : Launch} {D : va_G} {ad : Nat → Nat} {ca : Nat → ClassId} (x1 : Int64) (x3 : Int32) (x4 : Int32) (x5 : Int32) (q : z_Sg) (o : (Int32 × z_Sg)) (h : f_Sp_find_12 x1 x3 x4 x5 q = some o) : z_ci l y_Sp_find b_Sp_find 9 (some .int) 2 61 D (z_Kt ca) (z_K ad ca q) (z_K ad ca o.2) [.ref (ad 12), .long x1, .int x3, .int x4, .int x5] o.1 := by
  refine z_ci_of (own := z_RSp) (by decide) rfl ?_
  intro p e s m below meth c A C0 hw
  obtain ⟨hx, hb, hr, hlk, hml, hown, hts, hK, hA⟩ := id C0
  generalize hH : s.heap = H at hw ⊢
  generalize hlo : ([] : List Loc) = locs at hw ⊢
  refine z_entry (lv := [(0, .ref (ad 12)), (1, .long x1), (3, .int x3), (4, .int x4), (5, .int x5)]) (Nat.le_of_ble_eq_true rfl) rfl (fun ls hl => ?_)
  unfold f_Sp_find_12 at h
  refine lv_aload_n hx hb d_Sp_find_0 rfl (lv_at hl 0 rfl) ?_
  refine lv_iload_n hx hb d_Sp_find_1 rfl (lv_at hl 2 rfl) ?_
  refine lv_aload_n hx hb d_Sp_find_2 rfl (lv_at hl 0 rfl) ?_
  refine gfK_12_at C0 hw fl_Sp_9 d_Sp_find_3 ?_
  refine va_alen hx hb hK hw.1 13 3 rfl rfl (v := (8 : Int32)) rfl d_Sp_find_6 ?_
  obtain ⟨r1, er1, h⟩ := ok_b h
  refine z_si (rest := [.ref (ad 12)]) C0 hw (c_Ma_min x3 (8 : Int32) q r1 er1) mw_Ma_min ml_Sp_19 ⟨Nat.le_of_ble_eq_true rfl, Nat.le_of_ble_eq_true rfl⟩ ⟨Nat.le_refl 0, Nat.le_refl 0⟩ rfl hl.1 rfl (Nat.le_of_ble_eq_true rfl) d_Sp_find_7 (fun H locs hw => ?_)
  refine pfK_12_length C0 hw fl_Sp_25 d_Sp_find_10 (fun H locs hw => ?_)
  obtain ⟨q2, eq2, h⟩ := ok_n h
  rw [← eq2] at hw
  refine lv_iconst (v := (0 : Int32)) hx hb d_Sp_find_13 (by decide) ?_
  refine lv_istore (lv' := [(6, .int (0 : Int32)), (0, .ref (ad 12)), (1, .long x1), (3, .int x3), (4, .int x4), (5, .int x5)]) hx hb d_Sp_find_14 hl (by decide) rfl (fun ls hl => ?_)
  exact w_Sp_find_12_16 o C0 q2 x1 x4 x5 (0 : Int32) h H locs ls hw (lv_sub hl [1, 2, 4, 5, 0] rfl)
def kb_Sp_put_12_2 (ih2 : Int64 × Int32 × z_Sg → Option z_Sg) (x1 : Int64) (x3 : Int32) (q : z_Sg) : Option z_Sg :=
  if (z_gI q 17) ≤ x3 then (some q) else (if z_bad x3 8 then none else ((f_Pa_putByte (z_gM q 3 x3.toNatClampNeg) (z_lushr x1 ((8 : Int32) * x3)) q).bind (fun r3 => z_nm (x3 + (1 : Int32)) (fun n4 => ih2 (x1, n4, r3)))))
def k_Sp_put_12_2 (x1 : Int64) (x3 : Int32) (q : z_Sg) : Option z_Sg := z_lo (fun ih2 a => kb_Sp_put_12_2 ih2 a.1 a.2.1 a.2.2) 2000 (x1, x3, q)
def f_Sp_put_12 (x1 : Int64) (q : z_Sg) : Option z_Sg :=
  k_Sp_put_12_2 x1 (0 : Int32) q
set_option maxHeartbeats 4000000 in
set_option maxRecDepth 100000 in
theorem wb_Sp_put_12_2 {p : Program} {l : Launch} {e : Env} {s : State} {m : MethodId} {args : Array Value} {below : List Frame} {meth : Method} {c : Code} {D : va_G} {A : Nat → Prop} {ad : Nat → Nat} {ca : Nat → ClassId} (o : z_Sg) (C0 : z_cx z_RSp b_Sp_put 4 none D (z_Kt ca) A p s m args meth c) (q : z_Sg) (ih2 : Int64 × Int32 × z_Sg → Option z_Sg) (hi2 : ∀ a : Int64 × Int32 × z_Sg, ih2 a = some o → ∀ (H : Heap) (locs : List Loc) (ls : Array Slot), z_wd D (z_K ad ca a.2.2) A s H locs → lv_has ls 4 [(0, .ref (ad 12)), (1, .long a.1), (3, .int a.2.1)] → W p l e (z_rm 1 26) s m args below meth c H locs 0 0 (z_qv below D (z_Kt ca) (z_K ad ca o) A s args) (F0 m 2 ls [])) (x1 : Int64) (x3 : Int32) (h : kb_Sp_put_12_2 ih2 x1 x3 q = some o) : ∀ (H : Heap) (locs : List Loc) (ls : Array Slot), z_wd D (z_K ad ca q) A s H locs → lv_has ls 4 [(0, .ref (ad 12)), (1, .long x1), (3, .int x3)] → W p l e (z_rm 1 26) s m args below meth c H locs 0 0 (z_qv below D (z_Kt ca) (z_K ad ca o) A s args) (F0 m 2 ls []) := by
  obtain ⟨hx, hb, hr, hlk, hml, hown, hts, hK, hA⟩ := id C0
  intro H locs ls hw hl
  refine lv_iload_n hx hb d_Sp_put_2 rfl (lv_at hl 2 rfl) ?_
  refine lv_aload_n hx hb d_Sp_put_3 rfl (lv_at hl 0 rfl) ?_
  refine gfK_12_length C0 hw fl_Sp_25 d_Sp_put_4 ?_
  refine lv_icmp_ge (tgt := 35) hx hb d_Sp_put_7 (by decide) (fun c1 => ?_) (fun c1 => ?_)
  · have h := ok_t h c1
    have ho := Option.some.inj h
    subst ho
    exact z_rtv C0 hw d_Sp_put_35
  · have h := ok_f h c1
    refine lv_aload_n hx hb d_Sp_put_10 rfl (lv_at hl 0 rfl) ?_
    refine gfK_12_pages C0 hw fl_Sp_15 d_Sp_put_11 ?_
    refine lv_aload_n hx hb d_Sp_put_14 rfl (lv_at hl 0 rfl) ?_
    refine gfK_12_at C0 hw fl_Sp_9 d_Sp_put_15 ?_
    refine lv_iload_n hx hb d_Sp_put_18 rfl (lv_at hl 2 rfl) ?_
    obtain ⟨b2, h⟩ := ok_g h
    refine alK_13 C0 hw b2 d_Sp_put_19 ?_
    refine lv_lload_n hx hb d_Sp_put_20 rfl (lv_at hl 1 rfl) ?_
    refine lv_bipush (v := (8 : Int32)) hx hb d_Sp_put_21 (by decide) ?_
    refine lv_iload_n hx hb d_Sp_put_23 rfl (lv_at hl 2 rfl) ?_
    refine lv_imul hx hb d_Sp_put_24 ?_
    refine lv_lushr (v := (z_lushr x1 ((8 : Int32) * x3))) hx hb d_Sp_put_25 rfl ?_
    obtain ⟨r3, er3, h⟩ := ok_b h
    refine z_vv (rest := []) C0 hw (c_Pa_putByte (z_gM q 3 x3.toNatClampNeg) (z_lushr x1 ((8 : Int32) * x3)) q r3 er3) mw_Pa_putByte ml_Sp_45 3 rfl ⟨Nat.le_of_ble_eq_true rfl, Nat.le_of_ble_eq_true rfl⟩ ⟨Nat.le_refl 0, Nat.le_refl 0⟩ rfl hl.1 rfl (Nat.le_of_ble_eq_true rfl) d_Sp_put_26 (fun H locs hw => ?_)
    obtain ⟨n4, en4, h⟩ := ok_n h
    refine lv_iinc (v := n4) (lv' := [(3, .int n4), (0, .ref (ad 12)), (1, .long x1)]) hx hb d_Sp_put_29 hl (k := 2) rfl (by rw [en4]; rfl) (by decide) rfl (fun ls hl => ?_)
    refine lv_goto (tgt := 2) hx hb d_Sp_put_32 (by decide) ?_
    exact hi2 (x1, n4, r3) h H locs ls hw (lv_sub hl [1, 2, 0] rfl)
theorem w_Sp_put_12_2 {p : Program} {l : Launch} {e : Env} {s : State} {m : MethodId} {args : Array Value} {below : List Frame} {meth : Method} {c : Code} {D : va_G} {A : Nat → Prop} {ad : Nat → Nat} {ca : Nat → ClassId} (o : z_Sg) (C0 : z_cx z_RSp b_Sp_put 4 none D (z_Kt ca) A p s m args meth c) (q : z_Sg) (x1 : Int64) (x3 : Int32) (h : k_Sp_put_12_2 x1 x3 q = some o) : ∀ (H : Heap) (locs : List Loc) (ls : Array Slot), z_wd D (z_K ad ca q) A s H locs → lv_has ls 4 [(0, .ref (ad 12)), (1, .long x1), (3, .int x3)] → W p l e (z_rm 1 26) s m args below meth c H locs 0 0 (z_qv below D (z_Kt ca) (z_K ad ca o) A s args) (F0 m 2 ls []) := by
  have key : ∀ (n : Nat) (a : Int64 × Int32 × z_Sg), z_lo (fun ih2 a => kb_Sp_put_12_2 ih2 a.1 a.2.1 a.2.2) n a = some o → ∀ (H : Heap) (locs : List Loc) (ls : Array Slot), z_wd D (z_K ad ca a.2.2) A s H locs → lv_has ls 4 [(0, .ref (ad 12)), (1, .long a.1), (3, .int a.2.1)] → W p l e (z_rm 1 26) s m args below meth c H locs 0 0 (z_qv below D (z_Kt ca) (z_K ad ca o) A s args) (F0 m 2 ls []) := by
    intro n
    induction n with
    | zero => intro a h; cases h
    | succ n ih => exact fun a h => wb_Sp_put_12_2 o C0 a.2.2 (z_lo (fun ih2 a => kb_Sp_put_12_2 ih2 a.1 a.2.1 a.2.2) n) ih a.1 a.2.1 h
  exact key 2000 (x1, x3, q) h
set_option maxHeartbeats 4000000 in
set_option maxRecDepth 100000 in
theorem c_Sp_put_12 {l : Launch} {D : va_G} {ad : Nat → Nat} {ca : Nat → ClassId} (x1 : Int64) (q : z_Sg) (o : z_Sg) (h : f_Sp_put_12 x1 q = some o) : z_cv l y_Sp_put b_Sp_put 4 none 1 26 D (z_Kt ca) (z_K ad ca q) (z_K ad ca o) [.ref (ad 12), .long x1] := by
  refine z_cv_of (own := z_RSp) (by decide) rfl ?_
  intro p e s m below meth c A C0 hw
  obtain ⟨hx, hb, hr, hlk, hml, hown, hts, hK, hA⟩ := id C0
  generalize hH : s.heap = H at hw ⊢
  generalize hlo : ([] : List Loc) = locs at hw ⊢
  refine z_entry (lv := [(0, .ref (ad 12)), (1, .long x1)]) (Nat.le_of_ble_eq_true rfl) rfl (fun ls hl => ?_)
  unfold f_Sp_put_12 at h
  refine lv_iconst (v := (0 : Int32)) hx hb d_Sp_put_0 (by decide) ?_
  refine lv_istore_n (lv' := [(3, .int (0 : Int32)), (0, .ref (ad 12)), (1, .long x1)]) hx hb d_Sp_put_1 rfl hl (by decide) rfl (fun ls hl => ?_)
  exact w_Sp_put_12_2 o C0 q x1 (0 : Int32) h H locs ls hw (lv_sub hl [1, 2, 0] rfl)
def k_Fl_push_53 (x6 : Int32) (q : z_Sg) : Option (Int32 × z_Sg) :=
  some (x6, q)
def f_Fl_push (x1 : Int64) (x3 : Int32) (q : z_Sg) : Option (Int32 × z_Sg) :=
  if z_bad (4 : Int32) 16 then none else (z_nm (((z_gM q 0 (4 : Int32).toNatClampNeg) - (x3.toInt64))) (fun n2 => (f_Sp_find_12 n2 x3 (1 : Int32) (1 : Int32) q).bind (fun r3 => if r3.1 = (-1 : Int32) then ((f_Sp_put_12 x1 r3.2).bind (fun r5 => if z_bad (4 : Int32) 16 then none else (z_nm (z_sM r5 0 (4 : Int32).toNatClampNeg n2) (fun q7 => k_Fl_push_53 r3.1 q7)))) else (k_Fl_push_53 r3.1 r3.2))))
set_option maxHeartbeats 4000000 in
set_option maxRecDepth 100000 in
theorem w_Fl_push_53 {p : Program} {l : Launch} {e : Env} {s : State} {m : MethodId} {args : Array Value} {below : List Frame} {meth : Method} {c : Code} {D : va_G} {A : Nat → Prop} {ad : Nat → Nat} {ca : Nat → ClassId} (o : (Int32 × z_Sg)) (C0 : z_cx z_RFl b_Fl_push 7 (some .int) D (z_Kt ca) A p s m args meth c) (q : z_Sg) (x6 : Int32) (h : k_Fl_push_53 x6 q = some o) : ∀ (H : Heap) (locs : List Loc) (ls : Array Slot), z_wd D (z_K ad ca q) A s H locs → lv_has ls 7 [(6, .int x6)] → W p l e (z_rm 3 89) s m args below meth c H locs 0 0 (z_qi below D (z_Kt ca) (z_K ad ca o.2) A s args o.1) (F0 m 53 ls []) := by
  obtain ⟨hx, hb, hr, hlk, hml, hown, hts, hK, hA⟩ := id C0
  intro H locs ls hw hl
  refine lv_iload hx hb d_Fl_push_53 (lv_at hl 0 rfl) ?_
  have ho := Option.some.inj h
  subst ho
  exact z_rti C0 hw d_Fl_push_55
set_option maxHeartbeats 4000000 in
set_option maxRecDepth 100000 in
theorem c_Fl_push {l : Launch} {D : va_G} {ad : Nat → Nat} {ca : Nat → ClassId} (x1 : Int64) (x3 : Int32) (q : z_Sg) (o : (Int32 × z_Sg)) (h : f_Fl_push x1 x3 q = some o) : z_ci l y_Fl_push b_Fl_push 7 (some .int) 3 89 D (z_Kt ca) (z_K ad ca q) (z_K ad ca o.2) [.ref (ad 11), .long x1, .int x3] o.1 := by
  refine z_ci_of (own := z_RFl) (by decide) rfl ?_
  intro p e s m below meth c A C0 hw
  obtain ⟨hx, hb, hr, hlk, hml, hown, hts, hK, hA⟩ := id C0
  generalize hH : s.heap = H at hw ⊢
  generalize hlo : ([] : List Loc) = locs at hw ⊢
  refine z_entry (lv := [(0, .ref (ad 11)), (1, .long x1), (3, .int x3)]) (Nat.le_of_ble_eq_true rfl) rfl (fun ls hl => ?_)
  unfold f_Fl_push at h
  refine lv_aload_n hx hb d_Fl_push_0 rfl (lv_at hl 0 rfl) ?_
  refine gfK_11_state C0 hw fl_Fl_9 d_Fl_push_1 ?_
  refine gfK_1_registers C0 hw fl_Fl_101 d_Fl_push_4 ?_
  refine lv_iconst (v := (4 : Int32)) hx hb d_Fl_push_7 (by decide) ?_
  obtain ⟨b1, h⟩ := ok_g h
  refine alK_2 C0 hw b1 d_Fl_push_8 ?_
  refine lv_iload_n hx hb d_Fl_push_9 rfl (lv_at hl 2 rfl) ?_
  refine lv_i2l hx hb d_Fl_push_10 rfl ?_
  refine lv_lsub hx hb d_Fl_push_11 ?_
  obtain ⟨n2, en2, h⟩ := ok_n h
  refine z_tl en2 ?_
  refine lv_lstore (lv' := [(4, .long n2), (0, .ref (ad 11)), (1, .long x1), (3, .int x3)]) hx hb d_Fl_push_12 hl (by decide) rfl (fun ls hl => ?_)
  refine lv_aload_n hx hb d_Fl_push_14 rfl (lv_at hl 1 rfl) ?_
  refine gfK_11_top C0 hw fl_Fl_27 d_Fl_push_15 ?_
  refine lv_lload hx hb d_Fl_push_18 (lv_at hl 0 rfl) ?_
  refine lv_iload_n hx hb d_Fl_push_20 rfl (lv_at hl 3 rfl) ?_
  refine lv_iconst (v := (1 : Int32)) hx hb d_Fl_push_21 (by decide) ?_
  refine lv_iconst (v := (1 : Int32)) hx hb d_Fl_push_22 (by decide) ?_
  obtain ⟨r3, er3, h⟩ := ok_b h
  refine z_vi (rest := []) C0 hw (c_Sp_find_12 n2 x3 (1 : Int32) (1 : Int32) q r3 er3) mw_Sp_find ml_Fl_127 12 rfl ⟨Nat.le_of_ble_eq_true rfl, Nat.le_of_ble_eq_true rfl⟩ ⟨Nat.le_refl 0, Nat.le_refl 0⟩ rfl hl.1 rfl (Nat.le_of_ble_eq_true rfl) d_Fl_push_23 (fun H locs hw => ?_)
  refine lv_istore (lv' := [(6, .int r3.1), (4, .long n2), (0, .ref (ad 11)), (1, .long x1), (3, .int x3)]) hx hb d_Fl_push_26 hl (by decide) rfl (fun ls hl => ?_)
  refine lv_iload hx hb d_Fl_push_28 (lv_at hl 0 rfl) ?_
  refine lv_iconst (v := (-1 : Int32)) hx hb d_Fl_push_30 (by decide) ?_
  refine lv_icmp_ne (tgt := 53) hx hb d_Fl_push_31 (by decide) (fun c4 => ?_) (fun c4 => ?_)
  · have h := ok_f h c4
    exact w_Fl_push_53 o C0 r3.2 r3.1 h H locs ls hw (lv_sub hl [0] rfl)
  · have h := ok_t h c4
    refine lv_aload_n hx hb d_Fl_push_34 rfl (lv_at hl 2 rfl) ?_
    refine gfK_11_top C0 hw fl_Fl_27 d_Fl_push_35 ?_
    refine lv_lload_n hx hb d_Fl_push_38 rfl (lv_at hl 3 rfl) ?_
    obtain ⟨r5, er5, h⟩ := ok_b h
    refine z_vv (rest := []) C0 hw (c_Sp_put_12 x1 r3.2 r5 er5) mw_Sp_put ml_Fl_133 12 rfl ⟨Nat.le_of_ble_eq_true rfl, Nat.le_of_ble_eq_true rfl⟩ ⟨Nat.le_refl 0, Nat.le_refl 0⟩ rfl hl.1 rfl (Nat.le_of_ble_eq_true rfl) d_Fl_push_39 (fun H locs hw => ?_)
    refine lv_aload_n hx hb d_Fl_push_42 rfl (lv_at hl 2 rfl) ?_
    refine gfK_11_state C0 hw fl_Fl_9 d_Fl_push_43 ?_
    refine gfK_1_registers C0 hw fl_Fl_101 d_Fl_push_46 ?_
    refine lv_iconst (v := (4 : Int32)) hx hb d_Fl_push_49 (by decide) ?_
    refine lv_lload hx hb d_Fl_push_50 (lv_at hl 1 rfl) ?_
    obtain ⟨b6, h⟩ := ok_g h
    refine asK_2 C0 hw b6 d_Fl_push_52 (fun H locs hw => ?_)
    obtain ⟨q7, eq7, h⟩ := ok_n h
    rw [← eq7] at hw
    exact w_Fl_push_53 o C0 q7 r3.1 h H locs ls hw (lv_sub hl [0] rfl)
def f_Fl_findTop (x1 : Int32) (q : z_Sg) : Option (Int32 × z_Sg) :=
  if z_bad (4 : Int32) 16 then none else ((f_Sp_find_12 (z_gM q 0 (4 : Int32).toNatClampNeg) x1 (0 : Int32) (1 : Int32) q).bind (fun r2 => some (r2.1, r2.2)))
set_option maxHeartbeats 4000000 in
set_option maxRecDepth 100000 in
theorem c_Fl_findTop {l : Launch} {D : va_G} {ad : Nat → Nat} {ca : Nat → ClassId} (x1 : Int32) (q : z_Sg) (o : (Int32 × z_Sg)) (h : f_Fl_findTop x1 q = some o) : z_ci l y_Fl_findTop b_Fl_findTop 2 (some .int) 3 89 D (z_Kt ca) (z_K ad ca q) (z_K ad ca o.2) [.ref (ad 11), .int x1] o.1 := by
  refine z_ci_of (own := z_RFl) (by decide) rfl ?_
  intro p e s m below meth c A C0 hw
  obtain ⟨hx, hb, hr, hlk, hml, hown, hts, hK, hA⟩ := id C0
  generalize hH : s.heap = H at hw ⊢
  generalize hlo : ([] : List Loc) = locs at hw ⊢
  refine z_entry (lv := [(0, .ref (ad 11)), (1, .int x1)]) (Nat.le_of_ble_eq_true rfl) rfl (fun ls hl => ?_)
  unfold f_Fl_findTop at h
  refine lv_aload_n hx hb d_Fl_findTop_0 rfl (lv_at hl 0 rfl) ?_
  refine gfK_11_top C0 hw fl_Fl_27 d_Fl_findTop_1 ?_
  refine lv_aload_n hx hb d_Fl_findTop_4 rfl (lv_at hl 0 rfl) ?_
  refine gfK_11_state C0 hw fl_Fl_9 d_Fl_findTop_5 ?_
  refine gfK_1_registers C0 hw fl_Fl_101 d_Fl_findTop_8 ?_
  refine lv_iconst (v := (4 : Int32)) hx hb d_Fl_findTop_11 (by decide) ?_
  obtain ⟨b1, h⟩ := ok_g h
  refine alK_2 C0 hw b1 d_Fl_findTop_12 ?_
  refine lv_iload_n hx hb d_Fl_findTop_13 rfl (lv_at hl 1 rfl) ?_
  refine lv_iconst (v := (0 : Int32)) hx hb d_Fl_findTop_14 (by decide) ?_
  refine lv_iconst (v := (1 : Int32)) hx hb d_Fl_findTop_15 (by decide) ?_
  obtain ⟨r2, er2, h⟩ := ok_b h
  refine z_vi (rest := []) C0 hw (c_Sp_find_12 (z_gM q 0 (4 : Int32).toNatClampNeg) x1 (0 : Int32) (1 : Int32) q r2 er2) mw_Sp_find ml_Fl_127 12 rfl ⟨Nat.le_of_ble_eq_true rfl, Nat.le_of_ble_eq_true rfl⟩ ⟨Nat.le_refl 0, Nat.le_refl 0⟩ rfl hl.1 rfl (Nat.le_of_ble_eq_true rfl) d_Fl_findTop_16 (fun H locs hw => ?_)
  have ho := Option.some.inj h
  subst ho
  exact z_rti C0 hw d_Fl_findTop_19
