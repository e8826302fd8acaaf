/-! SHA-256 of nothing, as tables: its schedule, its rounds, its words; the constants. -/
def hs_KL : List Int32 := [1116352408, 1899447441, -1245643825, -373957723, 961987163, 1508970993, -1841331548, -1424204075, -670586216, 310598401, 607225278, 1426881987, 1925078388, -2132889090, -1680079193, -1046744716, -459576895, -272742522, 264347078, 604807628, 770255983, 1249150122, 1555081692, 1996064986, -1740746414, -1473132947, -1341970488, -1084653625, -958395405, -710438585, 113926993, 338241895, 666307205, 773529912, 1294757372, 1396182291, 1695183700, 1986661051, -2117940946, -1838011259, -1564481375, -1474664885, -1035236496, -949202525, -778901479, -694614492, -200395387, 275423344, 430227734, 506948616, 659060556, 883997877, 958139571, 1322822218, 1537002063, 1747873779, 1955562222, 2024104815, -2067236844, -1933114872, -1866530822, -1538233109, -1090935817, -965641998]
def hs_HL : List Int32 := [1779033703, -1150833019, 1013904242, -1521486534, 1359893119, -1694144372, 528734635, 1541459225]
def hs_WL : List Int32 := [-2147483648, 0, 0, 0, 0, 0, 0, 0, 0, 0, 0, 0, 0, 0, 0, 0, -2147483648, 0, 2117632, 0, 570427392, 0, 84448578, -2147483648, 1476919296, 4235264, 1451269, 1711282176, -702405248, 337794312, -700057252, -920117248, -1007615852, 676112230, 109604294, -1552158442, 1904000662, -20785334, -1481212160, -2129291614, -1733892248, 62000258, 1562224585, -1319716555, -1008874991, 614207615, -997382929, 1575308336, -553726363, 748767245, 1008022316, 30329261, 369937616, 195877528, 907775968, -768472154, 43741191, 1967544444, 133517113, -133636669, -590711288, 1581412744, 1153231965, 996066459]
def hs_ML : List (List Int32) := [[1779033703, -1150833019, 1013904242, -1521486534, 1359893119, -1694144372, 528734635, 1541459225],
  [2080933965, 1779033703, -1150833019, 1013904242, 415752866, 1359893119, -1694144372, 528734635],
  [-1662688048, 2080933965, 1779033703, -1150833019, 536982102, 415752866, 1359893119, -1694144372],
  [-995338970, -1662688048, 2080933965, 1779033703, 1876632314, 536982102, 415752866, 1359893119],
  [1277422283, -995338970, -1662688048, 2080933965, 808968629, 1876632314, 536982102, 415752866],
  [1130821424, 1277422283, -995338970, -1662688048, -405773282, 808968629, 1876632314, 536982102],
  [690895682, 1130821424, 1277422283, -995338970, 1332035834, -405773282, 808968629, 1876632314],
  [-266316400, 690895682, 1130821424, 1277422283, -2098339729, 1332035834, -405773282, 808968629],
  [2060825014, -266316400, 690895682, 1130821424, 1408847307, -2098339729, 1332035834, -405773282],
  [-181574747, 2060825014, -266316400, 690895682, 2058339864, 1408847307, -2098339729, 1332035834],
  [-269959343, -181574747, 2060825014, -266316400, 1392976521, 2058339864, 1408847307, -2098339729],
  [361478433, -269959343, -181574747, 2060825014, -499760178, 1392976521, 2058339864, 1408847307],
  [-180138944, 361478433, -269959343, -181574747, -673153902, -499760178, 1392976521, 2058339864],
  [553833165, -180138944, 361478433, -269959343, -838992302, -673153902, -499760178, 1392976521],
  [1170215847, 553833165, -180138944, 361478433, 725774998, -838992302, -673153902, -499760178],
  [-1198850597, 1170215847, 553833165, -180138944, 483372089, 725774998, -838992302, -673153902],
  [-1275034187, -1198850597, 1170215847, 553833165, 1555621987, 483372089, 725774998, -838992302],
  [1192056138, -1275034187, -1198850597, 1170215847, 1892956839, 1555621987, 483372089, 725774998],
  [-577136085, 1192056138, -1275034187, -1198850597, 1619825619, 1892956839, 1555621987, 483372089],
  [812095850, -577136085, 1192056138, -1275034187, -744956694, 1619825619, 1892956839, 1555621987],
  [172493064, 812095850, -577136085, 1192056138, -1878186068, -744956694, 1619825619, 1892956839],
  [1976037592, 172493064, 812095850, -577136085, 966081741, -1878186068, -744956694, 1619825619],
  [-1717122279, 1976037592, 172493064, 812095850, -1031301090, 966081741, -1878186068, -744956694],
  [1078820948, -1717122279, 1976037592, 172493064, -1318766832, -1031301090, 966081741, -1878186068],
  [-1738805931, 1078820948, -1717122279, 1976037592, 741081741, -1318766832, -1031301090, 966081741],
  [2062996621, -1738805931, 1078820948, -1717122279, -178287579, 741081741, -1318766832, -1031301090],
  [-977791826, 2062996621, -1738805931, 1078820948, -444939276, -178287579, 741081741, -1318766832],
  [747317945, -977791826, 2062996621, -1738805931, -1617739133, -444939276, -178287579, 741081741],
  [1837942423, 747317945, -977791826, 2062996621, 1726829818, -1617739133, -444939276, -178287579],
  [1690082844, 1837942423, 747317945, -977791826, -1788253323, 1726829818, -1617739133, -444939276],
  [1926471693, 1690082844, 1837942423, 747317945, -1337282003, -1788253323, 1726829818, -1617739133],
  [-1598354209, 1926471693, 1690082844, 1837942423, 1447716390, -1337282003, -1788253323, 1726829818],
  [300352095, -1598354209, 1926471693, 1690082844, -1143503764, 1447716390, -1337282003, -1788253323],
  [-477039690, 300352095, -1598354209, 1926471693, -858628725, -1143503764, 1447716390, -1337282003],
  [-1589528939, -477039690, 300352095, -1598354209, 197416927, -858628725, -1143503764, 1447716390],
  [1151435175, -1589528939, -477039690, 300352095, 1769188034, 197416927, -858628725, -1143503764],
  [1679812728, 1151435175, -1589528939, -477039690, 980442793, 1769188034, 197416927, -858628725],
  [-1600760995, 1679812728, 1151435175, -1589528939, -88053011, 980442793, 1769188034, 197416927],
  [1457773646, -1600760995, 1679812728, 1151435175, -402134401, -88053011, 980442793, 1769188034],
  [-1638341585, 1457773646, -1600760995, 1679812728, -2052647900, -402134401, -88053011, 980442793],
  [1234768305, -1638341585, 1457773646, -1600760995, 1902882853, -2052647900, -402134401, -88053011],
  [-24721357, 1234768305, -1638341585, 1457773646, -2070382113, 1902882853, -2052647900, -402134401],
  [580450446, -24721357, 1234768305, -1638341585, -171603223, -2070382113, 1902882853, -2052647900],
  [-608877141, 580450446, -24721357, 1234768305, -532660551, -171603223, -2070382113, 1902882853],
  [-387758254, -608877141, 580450446, -24721357, 692219050, -532660551, -171603223, -2070382113],
  [-1542884652, -387758254, -608877141, 580450446, -1439950832, 692219050, -532660551, -171603223],
  [855262251, -1542884652, -387758254, -608877141, -762984839, -1439950832, 692219050, -532660551],
  [1419259244, 855262251, -1542884652, -387758254, -1972731214, -762984839, -1439950832, 692219050],
  [911881421, 1419259244, 855262251, -1542884652, -877397781, -1972731214, -762984839, -1439950832],
  [1655188062, 911881421, 1419259244, 855262251, 1286303114, -877397781, -1972731214, -762984839],
  [-1751583251, 1655188062, 911881421, 1419259244, -385177744, 1286303114, -877397781, -1972731214],
  [-1050424543, -1751583251, 1655188062, 911881421, 906398686, -385177744, 1286303114, -877397781],
  [-715258174, -1050424543, -1751583251, 1655188062, -1584082609, 906398686, -385177744, 1286303114],
  [-1313694576, -715258174, -1050424543, -1751583251, 1134943992, -1584082609, 906398686, -385177744],
  [974034039, -1313694576, -715258174, -1050424543, -40266898, 1134943992, -1584082609, 906398686],
  [749689034, 974034039, -1313694576, -715258174, -444013160, -40266898, 1134943992, -1584082609],
  [23298068, 749689034, 974034039, -1313694576, -1376170486, -444013160, -40266898, 1134943992],
  [2126991890, 23298068, 749689034, 974034039, 2035393328, -1376170486, -444013160, -40266898],
  [-403946052, 2126991890, 23298068, 749689034, -492232996, 2035393328, -1376170486, -444013160],
  [-383538234, -403946052, 2126991890, 23298068, 148956906, -492232996, 2035393328, -1376170486],
  [71572494, -383538234, -403946052, 2126991890, -1427136444, 148956906, -492232996, 2035393328],
  [-199244822, 71572494, -383538234, -403946052, 477227836, -1427136444, 148956906, -492232996],
  [1586299222, -199244822, 71572494, -383538234, -2062434448, 477227836, -1427136444, 148956906],
  [-577475185, 1586299222, -199244822, 71572494, -912905536, -2062434448, 477227836, -1427136444],
  [2040978907, -577475185, 1586299222, -199244822, -694161563, -912905536, -2062434448, 477227836]]
def hs_OL : List Int32 := [-474954686, -1728308204, -1694763832, -1720731356, 665731556, 1687917388, -1533699813, 2018687061]
def hs_K (j : Nat) : Int32 := hs_KL.getD j 0
def hs_H (j : Nat) : Int32 := hs_HL.getD j 0
def hs_L (j : Nat) : Int32 := hs_WL.getD j 0
def hs_M (i j : Nat) : Int32 := (hs_ML.getD i []).getD j 0
def hs_O (j : Nat) : Int32 := hs_OL.getD j 0
def xb_8 : List Cond := vx_at0 RX8 34 "java/lang/IllegalStateException" ["java/lang/RuntimeException", "java/lang/Exception"]
def xb_11 : List Cond := vx_at0 RX11 222 "java/lang/ArrayIndexOutOfBoundsException" ["java/lang/IndexOutOfBoundsException", "java/lang/RuntimeException", "java/lang/Exception"]
def xg_8 : List Cond := xb_8.filter goodWord
def xg_11 : List Cond := xb_11.filter goodWord
def xb_b : List Cond := (xb_8 ++ xb_11).filter (fun w => !goodWord w)
def hk_bw : Cond → Bool
  | .declares _ => true
  | .castable _ _ => true
  | _ => false
theorem hk_bw_all : xb_b.all hk_bw = true := by decide +kernel
theorem hk_bw_at {w : Cond} (h : w ∈ xb_b) : hk_bw w = true := List.all_eq_true.mp hk_bw_all w h
theorem hk_bw_tab {w : Cond} (h : hk_bw w = true) : w.onTables = true := by
  cases w <;> first | rfl | cases h
theorem hk_bwarm {w : Cond} (h : hk_bw w = true) {s U : State} (hW : s.WarmedH U.vm) (hZ : va_Nw w s) : va_Nw w U := by
  cases w <;> first | exact va_Nw.warmD hW hZ | exact va_Nw.warmC hW hZ | cases h
theorem xg_8g : xg_8.all goodWord = true := by decide +kernel
theorem xg_11g : xg_11.all goodWord = true := by decide +kernel
theorem xb_8b : ∀ w ∈ xb_8.filter (fun w => !goodWord w), w ∈ xb_b := by decide +kernel
theorem xb_11b : ∀ w ∈ xb_11.filter (fun w => !goodWord w), w ∈ xb_b := by decide +kernel
theorem xb_8o : ∀ w ∈ Cond.classLink RX8 32 "java/lang/IllegalStateException" :: Cond.initialized "java/lang/IllegalStateException" :: xb_8, vx_ot w = true := by decide +kernel
theorem xb_11o : ∀ w ∈ Cond.classLink RX11 220 "java/lang/ArrayIndexOutOfBoundsException" :: Cond.initialized "java/lang/ArrayIndexOutOfBoundsException" :: xb_11, vx_ot w = true := by decide +kernel
/-- a static that holds a table of ints, which nobody writes -/
def hk_TB (C n : String) (t N : Nat) (f : Nat → Int32) (A : Nat → Prop) (U : State) : Prop := va_Z C n "[I" (.ref t) A U U.heap ∧ va_T .int t N (fun j => .int (f j)) A U U.heap
def hk_ST (t3 : Nat × Nat × Nat) (A : Nat → Prop) (U : State) : Prop := hk_TB RX0 "SHA_KEYS" t3.1 64 hs_K A U ∧ hk_TB RX0 "SHA_START" t3.2.1 8 hs_H A U ∧ hk_TB RX12 "ROUND" t3.2.2 64 hs_K A U
def hk_YY (t3 : Nat × Nat × Nat) (A : Nat → Prop) (U : State) : Prop := hk_ZZ A U ∧ (∀ w ∈ xb_b, va_Nw w U) ∧ hk_ST t3 A U
def hk_BY (t3 : Nat × Nat × Nat) (D : va_G) (tys : List (ClassId × FieldType)) (sz : Nat) (ws : va_W) (U : State) : Prop := hk_B D tys sz ws U ∧ hk_YY t3 (va_A ws sz) U
theorem hk_TBk {C n : String} {t N : Nat} {f : Nat → Int32} {A B : Nat → Prop} {s U : State} {H : Heap} (h : hk_TB C n t N f A s) (hq : ∀ a : Nat, a < s.heap.size → ¬ A a → H[a]? = s.heap[a]?) (hF : ∀ q, B q → A q) (hU : U.heap = H) (hal : s.vm.Alike U.vm) : hk_TB C n t N f B U := by
  subst hU
  exact ⟨((h.1.kept hq).narrow hF).moved hal, ((h.2.kept hq).narrow hF).moved hal⟩
theorem hk_YYk {t3 : Nat × Nat × Nat} {A B : Nat → Prop} {s U : State} {H : Heap} (h : hk_YY t3 A s) (hq : ∀ a : Nat, a < s.heap.size → ¬ A a → H[a]? = s.heap[a]?) (hF : ∀ q, B q → A q) (hU : U.heap = H) (hW : s.WarmedH U.vm) : hk_YY t3 B U := by
  subst hU
  exact ⟨⟨((h.1.1.kept hq).narrow hF).moved hW.alike, ((h.1.2.kept hq).narrow hF).moved hW.alike⟩, fun w hw => hk_bwarm (hk_bw_at hw) hW (h.2.1 w hw), hk_TBk h.2.2.1 hq hF rfl hW.alike, hk_TBk h.2.2.2.1 hq hF rfl hW.alike, hk_TBk h.2.2.2.2 hq hF rfl hW.alike⟩
theorem hk_YYc {t3 : Nat × Nat × Nat} {A : Nat → Prop} {U : State} (h : hk_YY t3 A U) (g : JFrame) (mk : MethodId) (a : Array Value) : hk_YY t3 A (U.calling g mk a) :=
  ⟨⟨vx_Zq.moved (u := U) (U := U.calling g mk a) (Vm.Alike.refl U.vm) h.1.1, vx_Zq.moved (u := U) (U := U.calling g mk a) (Vm.Alike.refl U.vm) h.1.2⟩, fun w hw => va_tabs (A := #[]) (u := U) (U := U.calling g mk a) (hk_bw_tab (hk_bw_at hw)) rfl (h.2.1 w hw),
   ⟨va_Z.moved (u := U) (U := U.calling g mk a) (Vm.Alike.refl U.vm) h.2.2.1.1, va_T.moved (u := U) (U := U.calling g mk a) (Vm.Alike.refl U.vm) h.2.2.1.2⟩,
   ⟨va_Z.moved (u := U) (U := U.calling g mk a) (Vm.Alike.refl U.vm) h.2.2.2.1.1, va_T.moved (u := U) (U := U.calling g mk a) (Vm.Alike.refl U.vm) h.2.2.2.1.2⟩,
   ⟨va_Z.moved (u := U) (U := U.calling g mk a) (Vm.Alike.refl U.vm) h.2.2.2.2.1, va_T.moved (u := U) (U := U.calling g mk a) (Vm.Alike.refl U.vm) h.2.2.2.2.2⟩⟩
/-- a start that asks less -/
theorem hk_metw {l : Launch} {y : MethodName} {wy : List Cond} {rm : Room} {Pc Pc' : Array Value → State → Prop} {Qc : Array Value → State → Outcome → State → Prop} {mc ms : Nat} {fr : Addr → Prop} (h : ∀ a U, Pc' a U → Pc a U) (hM : Met l y wy rm Pc Qc mc ms fr) : Met l y wy rm Pc' Qc mc ms fr :=
  fun p e ha hc hk s m args below hf hs hP ht => hM p e ha hc hk s m args below hf hs (h _ _ hP) ht
theorem hk_toY {l : Launch} {y : MethodName} {wy : List Cond} {rm : Room} {av : List Value} {D : va_G} {tys : List (ClassId × FieldType)} {sz : Nat} {ws : va_W} {Qc : Array Value → State → Outcome → State → Prop} {mc ms : Nat} {fr : Addr → Prop} {t3 : Nat × Nat × Nat} (hM : Met l y wy rm (va_Pc av (hk_B D tys sz ws)) Qc mc ms fr) : Met l y wy rm (va_Pc av (hk_BY t3 D tys sz ws)) Qc mc ms fr :=
  hk_metw (fun _ _ h => ⟨h.1, h.2.1⟩) hM
theorem hk_ymet {t3 : Nat × Nat × Nat} {l : Launch} {y : MethodName} {wy wy' : List Cond} {rm : Room} {av : List Value} {D : va_G} {tys : List (ClassId × FieldType)} {sz : Nat} {ws : va_W} {Qc : Array Value → State → Outcome → State → Prop} {XC : String → State → State → Prop} {mc ms : Nat} {cc : ByteArray} {maxL : Nat} {ret : Option FieldType}
    (hy : plainName y.cls = true) (hw : wy = Cond.code y cc maxL ret :: wy') (hn : (lg_sl av).length ≤ maxL)
    (body : ∀ (p : Program) (e : Env) (s : State) (m : MethodId) (below : List Frame) (meth : Method) (c : Code) (ls : Array Slot), p.tables.exec = Jvm.exec → c.code = cc → meth.sig.returnType = ret → c.maxLocals = maxL → s.vm.findClass y.cls = some m.cls → (∀ w ∈ wy, w.before av.toArray s = true) → meth.locks = false → meth.name = y.name → (∀ q, s.heap.size ≤ q → va_A ws sz q) → (∀ x ∈ c.exceptionTable.toList, False) → hk_YY t3 (va_A ws sz) s → hk_W D tys (va_A ws sz) s s.heap [] ws → lv_has ls maxL (lv_args 0 av) →
      W p l e rm s m av.toArray below meth c s.heap [] 0 0 (vx_MQ below Qc XC av.toArray s mc ms (va_A ws sz)) (F0 m 0 ls [])) :
    vx_Met l y wy rm (va_Pc av (hk_BY t3 D tys sz ws)) Qc XC mc ms (va_A ws sz) := by
  refine vx_ofW (cc := cc) (maxL := maxL) (ret := ret) hy hw ?_
  intro p e s m args below meth c s₁ B hml hno hv
  obtain ⟨rfl, ⟨hsz, hP, hK, hD0⟩, hz1⟩ := hv
  subst hsz
  have hts := atoms_spec (ws := wy) B.pre
  have hl := lv_entry av (n := maxL) hn
  rw [lg_entry_eq]
  generalize (lg_sl av ++ List.replicate (maxL - (lg_sl av).length) Slot.unset).toArray = ls at hl ⊢
  exact body p e s m below meth c ls B.exec B.bytes B.returns hml (findClass_of_methodNamed B.named) hts B.notSynchronized (name_of_methodNamed B.named B.method).1 (fun q h => Or.inr h) hno hz1 ⟨hP, hD0.self, va_S.rf, hK⟩ hl
theorem hk_umet {t3 : Nat × Nat × Nat} {l : Launch} {y : MethodName} {wy wy' : List Cond} {rm : Room} {av : List Value} {D : va_G} {tys : List (ClassId × FieldType)} {sz : Nat} {ws : va_W} {Qc : Array Value → State → Outcome → State → Prop} {mc ms : Nat} {cc : ByteArray} {maxL : Nat} {ret : Option FieldType} {hh : List (Nat × Nat × Nat × Nat)}
    (hy : plainName y.cls = true) (hw : wy = Cond.codeWith y cc maxL ret hh :: wy') (hn : (lg_sl av).length ≤ maxL)
    (body : ∀ (p : Program) (e : Env) (s : State) (m : MethodId) (below : List Frame) (meth : Method) (c : Code) (ls : Array Slot), p.tables.exec = Jvm.exec → c.code = cc → meth.sig.returnType = ret → c.maxLocals = maxL → s.vm.findClass y.cls = some m.cls → (∀ w ∈ wy, w.before av.toArray s = true) → meth.locks = false → meth.name = y.name → (∀ q, s.heap.size ≤ q → va_A ws sz q) → c.exceptionTable.toList = tableOf hh → hk_YY t3 (va_A ws sz) s → hk_W D tys (va_A ws sz) s s.heap [] ws → lv_has ls maxL (lv_args 0 av) →
      W p l e rm s m av.toArray below meth c s.heap [] 0 0 (MQ below Qc av.toArray s mc ms (va_A ws sz)) (F0 m 0 ls [])) :
    Met l y wy rm (va_Pc av (hk_BY t3 D tys sz ws)) Qc mc ms (va_A ws sz) := by
  refine va_MetW (cc := cc) (maxL := maxL) (ret := ret) (hh := hh) hy hw ?_
  intro p e s m args below meth c s₁ B hml hv
  obtain ⟨rfl, ⟨hsz, hP, hK, hD0⟩, hz1⟩ := hv
  subst hsz
  have hts := atoms_spec (ws := wy) B.pre
  have htb := vx_table (x := y) B (hts _ (by rw [hw]; exact List.mem_cons_self))
  have hl := lv_entry av (n := maxL) hn
  rw [lg_entry_eq]
  generalize (lg_sl av ++ List.replicate (maxL - (lg_sl av).length) Slot.unset).toArray = ls at hl ⊢
  exact body p e s m below meth c ls B.exec B.bytes B.returns hml (findClass_of_methodNamed B.named) hts B.notSynchronized (name_of_methodNamed B.named B.method).1 (fun q h => Or.inr h) htb hz1 ⟨hP, hD0.self, va_S.rf, hK⟩ hl
theorem hk_smet {t3 : Nat × Nat × Nat} {l : Launch} {y : MethodName} {wy wy' : List Cond} {rm : Room} {av : List Value} {D : va_G} {tys : List (ClassId × FieldType)} {sz : Nat} {ws : va_W} {Qc : Array Value → State → Outcome → State → Prop} {mc ms : Nat} {cc : ByteArray} {maxL : Nat} {ret : Option FieldType}
    (hy : plainName y.cls = true) (hw : wy = Cond.code y cc maxL ret :: wy') (hn : (lg_sl av).length ≤ maxL)
    (body : ∀ (p : Program) (e : Env) (s : State) (m : MethodId) (below : List Frame) (meth : Method) (c : Code) (ls : Array Slot), p.tables.exec = Jvm.exec → c.code = cc → meth.sig.returnType = ret → c.maxLocals = maxL → s.vm.findClass y.cls = some m.cls → (∀ w ∈ wy, w.before av.toArray s = true) → meth.locks = false → meth.name = y.name → (∀ q, s.heap.size ≤ q → va_A ws sz q) → hk_YY t3 (va_A ws sz) s → hk_W D tys (va_A ws sz) s s.heap [] ws → lv_has ls maxL (lv_args 0 av) →
      W p l e rm s m av.toArray below meth c s.heap [] 0 0 (MQ below Qc av.toArray s mc ms (va_A ws sz)) (F0 m 0 ls [])) :
    Met l y wy rm (va_Pc av (hk_BY t3 D tys sz ws)) Qc mc ms (va_A ws sz) := by
  refine Met.ofW (cc := cc) (maxL := maxL) (ret := ret) hy hw ?_
  intro p e s m args below meth c s₁ B hml hv
  obtain ⟨rfl, ⟨hsz, hP, hK, hD0⟩, hz1⟩ := hv
  subst hsz
  have hts := atoms_spec (ws := wy) B.pre
  have hl := lv_entry av (n := maxL) hn
  rw [lg_entry_eq]
  generalize (lg_sl av ++ List.replicate (maxL - (lg_sl av).length) Slot.unset).toArray = ls at hl ⊢
  exact body p e s m below meth c ls B.exec B.bytes B.returns hml (findClass_of_methodNamed B.named) hts B.notSynchronized (name_of_methodNamed B.named B.method).1 (fun q h => Or.inr h) hz1 ⟨hP, hD0.self, va_S.rf, hK⟩ hl
section HKY
variable {p : Program} {l : Launch} {e : Env} {R : Room} {s : State} {m : MethodId} {args : Array Value} {below : List Frame} {meth : Method} {c : Code} {H : Heap} {locs : List Loc} {cells slots : Nat} {Q : State → Prop}
variable {cc : ByteArray} {pc : Nat} {ls : Array Slot} {rest : List Value} {D : va_G} {A : Nat → Prop} {a : Nat} {tys : List (ClassId × FieldType)} {ws : va_W} {t3 : Nat × Nat × Nat}
theorem hk_ythrow {S : Type} {px : S → Prop} {w' : S → va_W} {w0 : va_W} {sz mc ms : Nat} {u : S} {Qc : Array Value → State → Outcome → State → Prop} {own cls : String} {names : List String} {ik ic : Nat} (hx : p.tables.exec = Jvm.exec) (hb : c.code = cc) (hlt : l.stackTraces = false) (hown : s.vm.findClass own = some m.cls) (hcls : Bundle.fit cls = true) (hnames : ∀ n ∈ names, Bundle.fit n = true)
    (hk : (Cond.classLink own ik cls).before args s = true) (hini : (Cond.initialized cls).before args s = true) (hat : ∀ w ∈ (vx_at0 own ic cls names).filter goodWord, w.before args s = true) (hbad : ∀ w ∈ (vx_at0 own ic cls names).filter (fun w => !goodWord w), w ∈ xb_b)
    (hgood : ∀ w ∈ Cond.classLink own ik cls :: Cond.initialized cls :: vx_at0 own ic cls names, vx_ot w = true)
    (hZ : hk_YY t3 (va_A w0 sz) s) (hw : hk_W D tys (va_A w0 sz) s H locs (w' u)) (hp : px u) (hno : ∀ x ∈ c.exceptionTable.toList, False) (hsize : ls.size = c.maxLocals)
    (d0 : decode cc pc = .ok (.new ik, 3)) (d3 : decode cc (pc + 3) = .ok (.dup, 1)) (d4 : decode cc (pc + 4) = .ok (.invokespecial ic, 3)) (d7 : decode cc (pc + 7) = .ok (.athrow, 1))
    (hRf : names.length + 3 < R.frames) (hRl : (rest.map fun v => v.category).sum + (13 * (names.length + 1) + 42) ≤ R.locals) (hRc : cells + 1 ≤ R.cells) (hRs : slots + 6 ≤ R.slots) (hlocks : meth.locks = false) (hc : cells + 1 ≤ mc) (hs : slots + 6 ≤ ms) :
    W p l e R s m args below meth c H locs cells slots (vx_MQ below Qc (hk_XC cls px w' D tys (va_A w0 sz)) args s mc ms (va_A w0 sz)) (F0 m pc ls rest) := by
  refine vx_throw0 (A := va_A w0 sz) hx hb hlt hown hcls hnames hk hini (vx_hat hat hbad (fun w h => va_Nw.use (hk_bw_tab (hk_bw_at h)) (hZ.2.1 w h))) hgood hZ.1.1 hZ.1.2 hw.2.2.1 hsize d0 d3 d4 d7 (fun x h => (hno x h).elim) hRf hRl hRc hRs hlocks (fun t hvm hz hkp => ?_) hw.2.2.1.2.2 hc hs
  refine ⟨u, hp, ⟨rfl, hw.1.kept (fun k q hq => hkp q.1 (hw.1 k q hq).lt), va_K.moved hvm hw.2.2.2, hw.2.1⟩, Nat.le_trans hw.2.2.1.1 hz, fun q h1 h2 => ?_⟩
  rw [hkp q (Nat.lt_of_lt_of_le h1 hw.2.2.1.1)]
  exact hw.2.2.1.2.1 q h1 h2
theorem hk_blindY (av : List Value) (n : Nat) : FrameBlind (va_Pc av (hk_BY t3 D tys n ws)) := fun a U g mk q => by
  obtain ⟨q0, q1, z1⟩ := q
  exact ⟨q0, (hk_blind av n a U g mk ⟨q0, q1⟩).2, hk_YYc z1 g mk a⟩
theorem hk_preY (hZ : hk_YY t3 A s) (hw : hk_W D tys A s H locs ws) (hA : ∀ q, s.heap.size ≤ q → A q) (av : List Value) : ∀ U : State, U.heap = H → s.WarmedH U.vm → va_Pc av (hk_BY t3 D tys H.size ws) av.toArray U := fun U hU hW => ⟨rfl, (hk_pre hw av U hU hW).2, hk_YYk hZ hw.2.2.1.2.1 (hk_free hw hA) hU hW⟩
/-- a word of a throw that no list carries -/
theorem hk_bad (hZ : hk_YY t3 A s) {w : Cond} (h : w ∈ xb_b) : w.before args s = true := va_Nw.use (hk_bw_tab (hk_bw_at h)) (hZ.2.1 w h)
/-- a static that holds a table; reading it -/
theorem hk_gets (hx : p.tables.exec = Jvm.exec) (hb : c.code = cc) {C n : String} {t N : Nat} {f : Nat → Int32} {index : Nat} (hT : hk_TB C n t N f A s) (hw : hk_W D tys A s H locs ws) (hown : s.vm.findClass C = some m.cls) (hlink : (Cond.fieldLink C index C n "[I").before args s = true) (hdg : decode cc pc = .ok (.getstatic index, 3))
    (kk : W p l e R s m args below meth c H locs cells slots Q (F0 m (pc + 3) ls (.ref t :: rest))) : W p l e R s m args below meth c H locs cells slots Q (F0 m pc ls rest) :=
  va_gets hx hb hT.1 hw.2.2.1 hown hlink (fun _ h => h) hdg kk
theorem hk_ti (hx : p.tables.exec = Jvm.exec) (hb : c.code = cc) {C n : String} {t N : Nat} {f : Nat → Int32} (hT : hk_TB C n t N f A s) (hw : hk_W D tys A s H locs ws) {i : Int32} (hin : vp_in i N) {v : Int32} (hv : f i.toNatClampNeg = v) (hdg : decode cc pc = .ok (.iaload, 1))
    (kk : W p l e R s m args below meth c H locs cells slots Q (F0 m (pc + 1) ls (.int v :: rest))) : W p l e R s m args below meth c H locs cells slots Q (F0 m pc ls (.int i :: .ref t :: rest)) :=
  va_ti hx hb hT.2 hw.2.2.1 hin (congrArg Value.int hv) hdg kk
/-- System.arraycopy from one array of ints of the world to another -/
theorem hk_copyi (hx : p.tables.exec = Jvm.exec) (hb : c.code = cc) (hml : c.maxLocals = ls.size) {own : String} {index : Nat} (hown : s.vm.findClass own = some m.cls) (hlink : (Cond.methodLink own index arraycopyName).before args s = true) (hnat : (Cond.native arraycopyName).before args s = true) (hstat : (Cond.static arraycopyName).before args s = true) (hini : (Cond.initialized "java/lang/System").before args s = true)
    (hw : hk_W D tys A s H locs ws) (q0 q1 t0 : Nat) {a0 : Nat} {cA : ClassId} {n0 n1 : Nat} {f g : Nat → Int32} (ha0 : ws[q0]? = some (a0, .inl (cA, n0, .inl f))) (ha1 : ws[q1]? = some (a, .inl (cA, n1, .inl g))) (ht0 : tys[t0]? = some (cA, .int))
    {sp dp n : Int32} (h1 : ¬ sp < 0) (h2 : ¬ dp < 0) (h3 : ¬ n < 0) (h4 : sp.toNatClampNeg + n.toNatClampNeg ≤ n0) (h5 : dp.toNatClampNeg + n.toNatClampNeg ≤ n1) (hframes : 1 ≤ R.frames) (hlocals : (rest.map fun v => v.category).sum + (nativeFrameWords "java/lang/System" "arraycopy" 5 + 11) ≤ R.locals) (hdg : decode cc pc = .ok (.invokestatic index, 3))
    {ws' : va_W} (he' : ws.set q1 (a, .inl (cA, n1, .inl (va_cpy f g sp.toNatClampNeg dp.toNatClampNeg n.toNatClampNeg))) = ws') (kk : ∀ (H1 : Heap) (locs1 : List Loc), hk_W D tys A s H1 locs1 ws' → W p l e R s m args below meth c H1 locs1 cells slots Q (F0 m (pc + 3) ls rest)) : W p l e R s m args below meth c H locs cells slots Q (F0 m pc ls (.int n :: .int dp :: .ref a :: .int sp :: .ref a0 :: rest)) := by
  subst he'
  exact va_copyi hx hb hml hown hlink hnat hstat hini hw.2.2.2 hw.1 hw.2.1 hw.2.2.1 q0 q1 t0 t0 ha0 ha1 ht0 ht0 rfl h1 h2 h3 h4 h5 (fun _ _ => rfl) hframes hlocals hdg (fun H1 locs1 g1 g2 g3 => kk H1 locs1 ⟨g1, g2, g3, hw.2.2.2⟩)
theorem hk_nn {z : Int32} (hz : ¬ z < 0) : z.toInt = (z.toNatClampNeg : Int) := by
  have h0 : (0 : Int) ≤ z.toInt := by simpa using Int32.le_iff_toInt_le.mp (Int32.not_lt.mp hz)
  show z.toInt = ((z.toInt.toNat : Nat) : Int)
  omega
/-- System.arraycopy from a table in a static to an array of ints of the world: the table's cell stands as at the start -/
theorem hk_copyT (hx : p.tables.exec = Jvm.exec) (hb : c.code = cc) (hml : c.maxLocals = ls.size) {own : String} {index : Nat} (hown : s.vm.findClass own = some m.cls) (hlink : (Cond.methodLink own index arraycopyName).before args s = true) (hnat : (Cond.native arraycopyName).before args s = true) (hstat : (Cond.static arraycopyName).before args s = true) (hini : (Cond.initialized "java/lang/System").before args s = true)
    (hw : hk_W D tys A s H locs ws) {C nm : String} {t N : Nat} {f : Nat → Int32} (hT : hk_TB C nm t N f A s) (q1 t1 : Nat) {cA : ClassId} {n1 : Nat} {g : Nat → Int32} (ha1 : ws[q1]? = some (a, .inl (cA, n1, .inl g))) (ht1 : tys[t1]? = some (cA, .int))
    {sp dp n : Int32} (h1 : ¬ sp < 0) (h2 : ¬ dp < 0) (h3 : ¬ n < 0) (h4 : sp.toNatClampNeg + n.toNatClampNeg ≤ N) (h5 : dp.toNatClampNeg + n.toNatClampNeg ≤ n1) (hframes : 1 ≤ R.frames) (hlocals : (rest.map fun v => v.category).sum + (nativeFrameWords "java/lang/System" "arraycopy" 5 + 11) ≤ R.locals) (hdg : decode cc pc = .ok (.invokestatic index, 3))
    {ws' : va_W} (he' : ws.set q1 (a, .inl (cA, n1, .inl (va_cpy f g sp.toNatClampNeg dp.toNatClampNeg n.toNatClampNeg))) = ws') (kk : ∀ (H1 : Heap) (locs1 : List Loc), hk_W D tys A s H1 locs1 ws' → W p l e R s m args below meth c H1 locs1 cells slots Q (F0 m (pc + 3) ls rest)) : W p l e R s m args below meth c H locs cells slots Q (F0 m pc ls (.int n :: .int dp :: .ref a :: .int sp :: .ref t :: rest)) := by
  subst he'
  intro Z hZ X
  obtain ⟨cell, k1, k2, k3, k4, -, k6, k7⟩ := hT.2
  have hc0 : Z.heap[t]? = some cell := by
    rw [hZ, hw.2.2.1.2.1 t (Array.getElem?_eq_some_iff.mp k1).1 k7]
    exact k1
  have hc1 : H[a]? = some (vp_cell cA (n1, .inl g)) := hw.1 q1 _ ha1
  obtain ⟨k8, w0, hw0, m0, hm0⟩ := k2
  obtain ⟨-, w1, hw1, m1, hm1⟩ := (hw.2.2.2.2 t1 _ ht1).1 n1 (fun j => .int (g j))
  have hv : ∀ i, i < n.toNatClampNeg → cell.slots.getD (sp.toNatClampNeg + i) .null = .int (f (sp.toNatClampNeg + i)) := fun i hi => by
    rw [Array.getD_eq_getD_getElem?, k6 _ (by omega)]
    rfl
  obtain ⟨vm', X', go⟩ := X.arraycopy hx hown hlink hnat hstat hini (src := t) (dst := a) (cs := cell) (cd := vp_cell cA (n1, .inl g)) (srcPos := sp) (destPos := dp) (n := n) hc0 (by rw [hZ]; exact hc1)
    k8 (fun _ h => by cases h) k3 (fun h => by cases h) hw0 hw1 hm0 hm1 (by simp [refKind]) h1 h2 h3
    (by rw [hk_nn h1, hk_nn h3]; omega)
    (by rw [hk_nn h2, hk_nn h3]; show ¬ _ > ((arrV cA n1 (fun j => .int (g j))).slots.size : Int); rw [arrV_size]; omega)
    (fun _ _ i hi => by rw [hv i hi]; exact ⟨rfl, trivial⟩)
    (g := F0 m pc ls (.int n :: .int dp :: .ref a :: .int sp :: .ref t :: rest)) rfl (by rw [hml]) (rest := rest) rfl (by rw [hb]; exact hdg) hframes (by show 2 * 0 + _ + _ ≤ _; omega)
  have e1 : copied cell (vp_cell cA (n1, .inl g)) sp dp n = vp_cell cA (n1, .inl (va_cpy f g sp.toNatClampNeg dp.toNatClampNeg n.toNatClampNeg)) := va_copiedX (fun z => .int z) cell cA f g k6 h4
  rw [e1] at X' go
  have hlt : a < H.size := (Array.getElem?_eq_some_iff.mp hc1).1
  have hheap : ((Z.setVm vm').setCell a (vp_cell cA (n1, .inl (va_cpy f g sp.toNatClampNeg dp.toNatClampNeg n.toNatClampNeg)))).heap = H.setIfInBounds a (vp_cell cA (n1, .inl (va_cpy f g sp.toNatClampNeg dp.toNatClampNeg n.toNatClampNeg))) := by rw [← hZ]; rfl
  have oq : ∀ q : Nat, q ≠ a → (H.setIfInBounds a (vp_cell cA (n1, .inl (va_cpy f g sp.toNatClampNeg dp.toNatClampNeg n.toNatClampNeg))))[q]? = H[q]? := fun q hq => by simp [Array.getElem?_setIfInBounds, Ne.symm hq]
  have hAa : A a := hw.2.1.2 q1 _ ha1
  obtain ⟨z, z1, z2⟩ := kk _ _ ⟨hw.1.set hw.2.1 ha1 (show (H.setIfInBounds a _)[a]? = some _ by simp [Array.getElem?_setIfInBounds, hlt]) oq, hw.2.1.set ha1, ⟨by simp; exact hw.2.2.1.1, fun q g1 g2 => by
      rw [oq q (fun e => g2 (by rw [e]; exact hAa))]
      exact hw.2.2.1.2.1 q g1 g2, fun q hq => by
      rcases List.mem_append.mp hq with h | h
      · exact hw.2.2.1.2.2 q h
      · obtain ⟨y, -, hy⟩ := List.mem_map.mp h
        rw [← hy]
        exact hAa⟩, hw.2.2.2⟩ _ hheap X'
  exact ⟨z, go z z1, z2⟩
variable {y : MethodName} {bytes : ByteArray} {maxL nL mc ms n index : Nat} {ret : Option FieldType} {wy : List Cond} {rm : Room} {Ts : List Cond} {own C : String} {b : Addr} {As st0 : List Value}
theorem hk_Yv {S : Type} {px : S → Prop} {w' : S → va_W} {En : String} {T : u_T} {N ci : Nat} {fs : List Value} (F : CallFix p m c cc nL s args Ts own) (hZ : hk_YY t3 A s) (hw : hk_W D tys A s H locs ws) (hA : ∀ q, s.heap.size ≤ q → A q)
    (hM : vx_Met l y wy rm (va_Pc (.ref b :: As) (hk_BY t3 D tys H.size ws)) (hk_NoV (va_A ws H.size)) (hk_XC En px w' D tys (va_A ws H.size)) mc ms (va_A ws H.size))
    (cw : CallW R s args own C index y bytes maxL ret wy rm mc ms n) (q0 : Nat) (he : ws[q0]? = some (b, .inr (ci, fs))) (hc : vwCl[ci]? = some (C, T, N)) (hn : As.length = n) (hl : ls.size = nL) (hst : st0 = As.reverse ++ .ref b :: rest) (hro : (rest.map fun v => v.category).sum ≤ 8) (hd : decode cc pc = .ok (.invokevirtual index, 3)) (hf : cells + mc ≤ R.cells ∧ slots + ms ≤ R.slots)
    (kx : ∀ (ce : Cell) (q9 : Addr) (u : S) (H1 : Heap) (locs1 : List Loc), px u → hk_W D tys A s H1 locs1 (w' u) → H1[q9]? = some ce → ce.vm = .none → s.vm.findClass En = some ce.cls → vx_W p l e R s m args below meth c H1 locs1 (cells + mc) (slots + ms) Q (F0 m pc ls rest) q9) : W p l e R s m args below meth c H locs cells slots Q (F0 m pc ls st0) := by
  have hFc := hk_free hw hA
  refine vx_callv (vx_runV (As := As) (rest := rest) F hM cw ⟨hk_blindY _ _, va_recv hw.2.2.2 hw.1 hc he, hk_preY hZ hw hA _⟩ rfl hn hl hst (lv_room hro) hd hf) hw.2.2.1 (fun q _ h => hFc q h) hFc (fun q _ h => hFc q h) (fun E ce q9 u t H1 locs1 ht hvm hp hB hz1 hk1 hS hce hcv hcl => ?_) (fun u t H1 locs ht hvm hp hB hz1 hk1 hS => hp.elim)
  obtain ⟨rfl, hP1, hK1, hD1⟩ := hB
  rw [ht] at hP1
  exact kx ce q9 u H1 locs1 hp ⟨hP1, hD1.weaken (fun _ q _ h => hFc q.1 h), hS, va_K.moved hvm.symm hK1⟩ hce hcv hcl
theorem hk_Yi {S : Type} {px : S → Prop} {w' : S → va_W} {En : String} {T : u_T} {N ci : Nat} {fs : List Value} (F : CallFix p m c cc nL s args Ts own) (hZ : hk_YY t3 A s) (hw : hk_W D tys A s H locs ws) (hA : ∀ q, s.heap.size ≤ q → A q)
    (hM : vx_Met l y wy rm (va_Pc (.ref b :: As) (hk_BY t3 D tys H.size ws)) (hk_NoI (va_A ws H.size)) (hk_XC En px w' D tys (va_A ws H.size)) mc ms (va_A ws H.size))
    (cw : CallW R s args own C index y bytes maxL ret wy rm mc ms n) (q0 : Nat) (he : ws[q0]? = some (b, .inr (ci, fs))) (hc : vwCl[ci]? = some (C, T, N)) (hn : As.length = n) (hl : ls.size = nL) (hst : st0 = As.reverse ++ .ref b :: rest) (hro : (rest.map fun v => v.category).sum ≤ 8) (hd : decode cc pc = .ok (.invokevirtual index, 3)) (hf : cells + mc ≤ R.cells ∧ slots + ms ≤ R.slots)
    (kx : ∀ (ce : Cell) (q9 : Addr) (u : S) (H1 : Heap) (locs1 : List Loc), px u → hk_W D tys A s H1 locs1 (w' u) → H1[q9]? = some ce → ce.vm = .none → s.vm.findClass En = some ce.cls → vx_W p l e R s m args below meth c H1 locs1 (cells + mc) (slots + ms) Q (F0 m pc ls rest) q9) : W p l e R s m args below meth c H locs cells slots Q (F0 m pc ls st0) := by
  have hFc := hk_free hw hA
  refine vx_calli (vx_runV (As := As) (rest := rest) F hM cw ⟨hk_blindY _ _, va_recv hw.2.2.2 hw.1 hc he, hk_preY hZ hw hA _⟩ rfl hn hl hst (lv_room hro) hd hf) hw.2.2.1 (fun q _ h => hFc q h) hFc (fun q _ h => hFc q h) (fun E ce q9 u t H1 locs1 ht hvm hp hB hz1 hk1 hS hce hcv hcl => ?_) (fun r u t H1 locs ht hvm hp hB hz1 hk1 hS => hp.elim)
  obtain ⟨rfl, hP1, hK1, hD1⟩ := hB
  rw [ht] at hP1
  exact kx ce q9 u H1 locs1 hp ⟨hP1, hD1.weaken (fun _ q _ h => hFc q.1 h), hS, va_K.moved hvm.symm hK1⟩ hce hcv hcl
theorem hk_ZVi {S : Type} {w' : S → va_W} {post : Int32 → S → Prop} {T : u_T} {N ci : Nat} {fs : List Value} (F : CallFix p m c cc nL s args Ts own) (hZ : hk_YY t3 A s) (hw : hk_W D tys A s H locs ws) (hA : ∀ q, s.heap.size ≤ q → A q)
    (hM : Met l y wy rm (va_Pc (.ref b :: As) (hk_BY t3 D tys H.size ws)) (va_Qi post (fun u => hk_E D tys (va_A ws H.size) (w' u)) (va_A ws H.size)) mc ms (va_A ws H.size))
    (cw : CallW R s args own C index y bytes maxL ret wy rm mc ms n) (q0 : Nat) (he : ws[q0]? = some (b, .inr (ci, fs))) (hc : vwCl[ci]? = some (C, T, N)) (hn : As.length = n) (hl : ls.size = nL) (hst : st0 = As.reverse ++ .ref b :: rest) (hro : (rest.map fun v => v.category).sum ≤ 8) (hd : decode cc pc = .ok (.invokevirtual index, 3)) (hf : cells + mc ≤ R.cells ∧ slots + ms ≤ R.slots)
    (k : ∀ (r : Int32) (u : S) (H1 : Heap) (locs1 : List Loc), post r u → hk_W D tys A s H1 locs1 (w' u) → W p l e R s m args below meth c H1 locs1 (cells + mc) (slots + ms) Q (F0 m (pc + 3) ls (.int r :: rest))) : W p l e R s m args below meth c H locs cells slots Q (F0 m pc ls st0) := by
  have hFc := hk_free hw hA
  refine va_calli (va_runV (As := As) (rest := rest) F hM cw ⟨hk_blindY _ _, va_recv hw.2.2.2 hw.1 hc he, hk_preY hZ hw hA _⟩ rfl hn hl hst (lv_room hro) hd hf) hw.2.2.1 (fun q _ h => hFc q h) hFc (fun r u t H1 locs ht hvm hp hB hz1 hk1 hS => ?_)
  obtain ⟨hP1, hK1, hD1⟩ := hB
  rw [ht] at hP1
  exact k r u H1 locs hp ⟨hP1, hD1.weaken (fun _ q _ h => hFc q.1 h), hS, va_K.moved hvm.symm hK1⟩
theorem hk_ZVv {S : Type} {w' : S → va_W} {post : S → Prop} {T : u_T} {N ci : Nat} {fs : List Value} (F : CallFix p m c cc nL s args Ts own) (hZ : hk_YY t3 A s) (hw : hk_W D tys A s H locs ws) (hA : ∀ q, s.heap.size ≤ q → A q)
    (hM : Met l y wy rm (va_Pc (.ref b :: As) (hk_BY t3 D tys H.size ws)) (va_Qv post (fun u => hk_E D tys (va_A ws H.size) (w' u)) (va_A ws H.size)) mc ms (va_A ws H.size))
    (cw : CallW R s args own C index y bytes maxL ret wy rm mc ms n) (q0 : Nat) (he : ws[q0]? = some (b, .inr (ci, fs))) (hc : vwCl[ci]? = some (C, T, N)) (hn : As.length = n) (hl : ls.size = nL) (hst : st0 = As.reverse ++ .ref b :: rest) (hro : (rest.map fun v => v.category).sum ≤ 8) (hd : decode cc pc = .ok (.invokevirtual index, 3)) (hf : cells + mc ≤ R.cells ∧ slots + ms ≤ R.slots)
    (k : ∀ (u : S) (H1 : Heap) (locs1 : List Loc), post u → hk_W D tys A s H1 locs1 (w' u) → W p l e R s m args below meth c H1 locs1 (cells + mc) (slots + ms) Q (F0 m (pc + 3) ls rest)) : W p l e R s m args below meth c H locs cells slots Q (F0 m pc ls st0) := by
  have hFc := hk_free hw hA
  refine va_callv (va_runV (As := As) (rest := rest) F hM cw ⟨hk_blindY _ _, va_recv hw.2.2.2 hw.1 hc he, hk_preY hZ hw hA _⟩ rfl hn hl hst (lv_room hro) hd hf) hw.2.2.1 (fun q _ h => hFc q h) hFc (fun u t H1 locs ht hvm hp hB hz1 hk1 hS => ?_)
  obtain ⟨hP1, hK1, hD1⟩ := hB
  rw [ht] at hP1
  exact k u H1 locs hp ⟨hP1, hD1.weaken (fun _ q _ h => hFc q.1 h), hS, va_K.moved hvm.symm hK1⟩
end HKY
