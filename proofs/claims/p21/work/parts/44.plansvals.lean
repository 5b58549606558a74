/-! PLANS BY HAND: what is told, by the kernel -/
def plN0 : Nat := 72999050153897776833508828428072433345620931968496724268162200117958640989753760293913660679568311267731046775845968948356361114871760506972414972206898338907017720640306280265775685798962659329
theorem plv0 : eqP P0 (tb plN0) = true := by decide +kernel
theorem plv1 : countA (tb plN0) 0 0 0 = 0 := by decide +kernel
theorem plv2 : tkA2 (tb plN0) 0 1 0 = 1 := by decide +kernel
theorem plv3 : tkA2 (tb plN0) 0 1 2 = 1 := by decide +kernel
theorem plv4 : tkA2 (tb plN0) 0 1 4 = 0 := by decide +kernel
theorem plv5 : tksA (tb plN0) 0 2 = 1 := by decide +kernel
theorem plv6 : standA (tb plN0) 1 2 = 1 := by decide +kernel
theorem plv7 : unlikeA (tb plN0) 0 = 1 := by decide +kernel
theorem plv8 : tb plN0 (Int.toNat 0) (0 * 7 + 1 + 0) = -1 := by decide +kernel
theorem plv9 : okW (13547500206174779) = true := by decide +kernel
def plT1 : List Int := [48, 33, 97, 49, 98, 50, 59]
theorem plv10 : ([] : List Int) ++ bys (13547500206174779) 8 = plT1 := by decide +kernel
theorem plv11 : okW (3548661891170709051) = true := by decide +kernel
def plT2 : List Int := [48, 33, 97, 49, 98, 50, 59, 49, 63, 97, 48, 59, 50, 46, 59]
theorem plv12 : plT1 ++ bys (3548661891170709051) 8 = plT2 := by decide +kernel
theorem plv13 : (parA plT2).2.2.2.1 = 0 := by decide +kernel
theorem plv14 : ((mpop (parA plT2).1 : Nat) : Int) = 3 := by decide +kernel
def plN1 : Nat := 72999050153897776833508828428072433345620931968496724268162200117958640989753760293913660679568311267731046775845968948356361114871760506972414972206898338907017720640306280265775685803794498338
theorem plv15 : eqP (prd (tb plN0) (Int.toNat 0) (parA plT2).2.1) (tb plN1) = true := by decide +kernel
theorem plv16 : stateA (tb plN1) 0 0 0 = 1 := by decide +kernel
theorem plv17 : stateA (tb plN1) 0 0 1 = 3 := by decide +kernel
theorem plv18 : stateA (tb plN1) 0 0 11 = 2 := by decide +kernel
theorem plv19 : stateA (tb plN1) 0 0 12 = (-1000004) := by decide +kernel
theorem plv20 : stateA (tb plN1) 0 0 3 = 7 := by decide +kernel
theorem plv21 : stateA (tb plN1) 0 5 2 = 2 := by decide +kernel
theorem plv22 : unlikeA (tb plN1) 0 = 3 := by decide +kernel
theorem plv23 : ((lastC (wP (pcp (tb plN1) (Int.toNat 0) (Int.toNat 1))) (2 * (Int.toNat 1) + 1) : Nat) : Int) = 2 := by decide +kernel
def plN2 : Nat := 72999050153897776833508828428072433345620931968496724268162200117958640989753760293913660679568311267731046775845969078622483101769760746152248635259879376559920052838623279654115058697874965282
theorem plv24 : eqP (pcp (tb plN1) (Int.toNat 0) (Int.toNat 1)) (tb plN2) = true := by decide +kernel
theorem plv25 : ((lastC (wP (pmi (tb plN2) (Int.toNat 1))) (2 * (Int.toNat 1) + 1) : Nat) : Int) = 2 := by decide +kernel
def plN3 : Nat := 72999050153897776833508828428072433345620931968496724268162200117958640989753760293913660679568311267731046775845969071385477551397445199329701866883900222750176684873232449728588539306914612002
theorem plv26 : eqP (pmi (tb plN2) (Int.toNat 1)) (tb plN3) = true := by decide +kernel
theorem plv27 : tkA2 (tb plN3) 0 1 0 = 3 := by decide +kernel
theorem plv28 : tkA2 (tb plN3) 0 1 1 = 0 := by decide +kernel
theorem plv29 : tkA2 (tb plN3) 0 1 2 = 1 := by decide +kernel
theorem plv30 : tkA2 (tb plN3) 0 1 3 = 1 := by decide +kernel
theorem plv31 : tkA2 (tb plN3) 0 1 4 = 1 := by decide +kernel
theorem plv32 : tkA2 (tb plN3) 0 1 5 = 7 := by decide +kernel
theorem plv33 : tksA (tb plN3) 0 1 = (-1000002) := by decide +kernel
theorem plv34 : pairA (tb plN3) 0 1 1 0 = 1 := by decide +kernel
theorem plv35 : pairA (tb plN3) 0 1 2 10 = 1 := by decide +kernel
theorem plv36 : pairA (tb plN3) 0 1 (-1) 0 = (-1000004) := by decide +kernel
theorem plv37 : pairA (tb plN3) 0 1 3 0 = (-1000004) := by decide +kernel
theorem plv38 : tkA2 (tb plN3) 0 0 0 = 1 := by decide +kernel
theorem plv39 : pairA (tb plN3) 0 0 (-1) 3 = 3 := by decide +kernel
theorem plv40 : pairA (tb plN3) 1 1 0 3 = 2 := by decide +kernel
theorem plv41 : tkA2 (tb plN3) 0 0 4 = (-1000004) := by decide +kernel
theorem plv42 : tksA (tb plN3) 0 0 = 0 := by decide +kernel
theorem plv43 : pairA (tb plN3) 0 2 0 3 = 1 := by decide +kernel
theorem plv44 : ¬ tb plN3 (Int.toNat 0) (1 * 7 + 1 + 0) = -1 := by decide +kernel
theorem plv45 : tb plN3 (Int.toNat 0) (1 * 7 + 1 + 0) = 0 := by decide +kernel
def plN4 : Nat := 72999050153897776833508828428072433345620931968496724268162200117958640989753760293913660679568311267731046775845969071385477551397445199329701866883900222750176684873232449728588539302619644706
theorem plv46 : eqP (mup (tb plN3) (Int.toNat 0) (1 * 7 + 1 + 0) (-1)) (tb plN4) = true := by decide +kernel
theorem plv47 : tkA2 (tb plN4) 0 1 3 = 0 := by decide +kernel
theorem plv48 : tksA (tb plN4) 0 1 = 1 := by decide +kernel
theorem plv49 : tkA2 (tb plN4) 0 1 1 = 1 := by decide +kernel
theorem plv50 : pairA (tb plN4) 0 1 (-1) 0 = 1 := by decide +kernel
theorem plv51 : pairA (tb plN4) 0 1 (-1) 3 = 5 := by decide +kernel
theorem plv52 : pairA (tb plN4) 0 1 (-1) 4 = 0 := by decide +kernel
theorem plv53 : pairA (tb plN4) 0 1 (-1) 10 = 0 := by decide +kernel
theorem plv54 : pairA (tb plN4) 0 1 (-1) 11 = (-1000004) := by decide +kernel
theorem plv55 : pairA (tb plN4) 0 1 0 4 = (-1000004) := by decide +kernel
theorem plv56 : standA (tb plN4) 0 0 = 1 := by decide +kernel
theorem plv57 : standA (tb plN4) 1 0 = 0 := by decide +kernel
theorem plv58 : againA (tb plN4) 1 0 0 = 0 := by decide +kernel
theorem plv59 : againA (tb plN4) 1 0 3 = 1 := by decide +kernel
theorem plv60 : againA (tb plN4) 1 0 4 = (-1000004) := by decide +kernel
theorem plv61 : againA (tb plN4) 1 0 10 = (-1000004) := by decide +kernel
theorem plv62 : ((lastC (wP (pcp (tb plN4) (Int.toNat 0) (Int.toNat 2))) (2 * (Int.toNat 2) + 1) : Nat) : Int) = 2 := by decide +kernel
def plN5 : Nat := 72999050153897776833508828428072433345620931968497114487313187435148344808737492809820170886353411119035445936751395892396522091878791974176863835002019817130737640507713589250309666242803270434
theorem plv63 : eqP (pcp (tb plN4) (Int.toNat 0) (Int.toNat 2)) (tb plN5) = true := by decide +kernel
theorem plv64 : ((mpop (wmask (hasW (wP (mup (tb plN5) (Int.toNat 2) (0 * 7 + 1 + 2) 2)) (2 * (Int.toNat 2) + 1) 0) 6) : Nat) : Int) = 3 := by decide +kernel
def plN6 : Nat := 72999050153897776833508828428072433345620931968497114496244581679292762279807583761147970604490956159161210261490347459928217664216225656009099466172746510741387506005512383697582851055220163362
theorem plv65 : eqP (mup (tb plN5) (Int.toNat 2) (0 * 7 + 1 + 2) 2) (tb plN6) = true := by decide +kernel
theorem plv66 : standA (tb plN6) 0 2 = 1 := by decide +kernel
theorem plv67 : standA (tb plN6) 2 0 = 0 := by decide +kernel
theorem plv68 : againA (tb plN6) 2 0 3 = 3 := by decide +kernel
theorem plv69 : againA (tb plN6) 2 0 4 = 2 := by decide +kernel
theorem plv70 : ((mpop (wmask (hasW (wP (mup (tb plN6) (Int.toNat 2) (1 * 7 + 1 + 3) 2)) (2 * (Int.toNat 2) + 1) 1) 6) : Nat) : Int) = 1 := by decide +kernel
def plN7 : Nat := 72999050153897776833508828428072433345620932006857160682527494218509829039506011326186744581558121660918530981366915386545497604254547050453288807784699840361232088144777108844677300898913846050
theorem plv71 : eqP (mup (tb plN6) (Int.toNat 2) (1 * 7 + 1 + 3) 2) (tb plN7) = true := by decide +kernel
theorem plv72 : standA (tb plN7) 0 2 = 0 := by decide +kernel
theorem plv73 : againA (tb plN7) 0 2 0 = 1 := by decide +kernel
theorem plv74 : againA (tb plN7) 0 2 1 = 1 := by decide +kernel
theorem plv75 : againA (tb plN7) 0 2 2 = 1 := by decide +kernel
theorem plv76 : againA (tb plN7) 0 2 3 = 3 := by decide +kernel
theorem plv77 : againA (tb plN7) 0 2 4 = 3 := by decide +kernel
theorem plv78 : againA (tb plN7) 0 2 10 = 0 := by decide +kernel
theorem plv79 : againA (tb plN7) 0 2 11 = (-1000004) := by decide +kernel
theorem plv80 : countA (tb plN7) 0 0 10 = 1 := by decide +kernel
theorem plv81 : countA (tb plN7) 0 0 12 = 0 := by decide +kernel
theorem plv82 : tb plN7 (Int.toNat 2) (0 * 7) = 1 := by decide +kernel
def plN8 : Nat := 72999050153897776833508828428072433345620932006857160682526767379785533432615462002378856577023768019557843663306633896346316964966433652529962616733986076795671325623170842666743766297285231394
theorem plv83 : eqP (mup (tb plN7) (Int.toNat 2) (0 * 7) 0) (tb plN8) = true := by decide +kernel
theorem plv84 : stateA (tb plN8) 2 0 1 = 7 := by decide +kernel
theorem plv85 : stateA (tb plN8) 2 0 12 = 2 := by decide +kernel
theorem plv86 : stateA (tb plN8) 2 0 3 = 1 := by decide +kernel
theorem plv87 : unlikeA (tb plN8) 2 = 1 := by decide +kernel
theorem plv88 : countA (tb plN8) 0 0 0 = 5 := by decide +kernel
theorem plv89 : countA (tb plN8) 0 0 1 = 9 := by decide +kernel
theorem plv90 : pairA (tb plN8) 2 0 0 3 = 1 := by decide +kernel
theorem plv91 : tkA2 (tb plN8) 2 2 2 = 1 := by decide +kernel
theorem plv92 : tb plN8 (Int.toNat 2) (3 * 7) = 0 := by decide +kernel
def plN9 : Nat := 72999050153897776833508828428072447404726539954345856965459603898478842400418956695868335016884932431550283261706228643348461039625362246032808346486783336821502749042857370818353706500922278690
theorem plv93 : eqP (mup (tb plN8) (Int.toNat 2) (3 * 7) 1) (tb plN9) = true := by decide +kernel
theorem plv94 : tb plN9 (Int.toNat 2) (0 * 7) = 0 := by decide +kernel
def plN10 : Nat := 72999050153897776833508828428072447404726539954345856965460330737203138007309506019676223021419286072910970579766510133547641678913475643956134537537497100387063511564463636996287241102550893346
theorem plv95 : eqP (mup (tb plN9) (Int.toNat 2) (0 * 7) 1) (tb plN10) = true := by decide +kernel
theorem plv96 : ((mpop (wmask (hasW (wP (mup (tb plN10) (Int.toNat 2) (0 * 7 + 1 + 0) 3)) (2 * (Int.toNat 2) + 1) 0) 6) : Nat) : Int) = 3 := by decide +kernel
def plN11 : Nat := 72999050153897776833508828428072447404726539954345856965483589576380597427807084381528639166518602596452964757695517819921422136133104377502572651160337534485007912255864154690160348354666562338
theorem plv97 : eqP (mup (tb plN10) (Int.toNat 2) (0 * 7 + 1 + 0) 3) (tb plN11) = true := by decide +kernel
theorem plv98 : standA (tb plN11) 2 2 = 0 := by decide +kernel
theorem plv99 : againA (tb plN11) 2 2 0 = 1 := by decide +kernel
theorem plv100 : againA (tb plN11) 2 2 3 = 2 := by decide +kernel
theorem plv101 : againA (tb plN11) 2 2 4 = (-1000004) := by decide +kernel
