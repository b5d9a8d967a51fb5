/-! the cells behind the constructors; rows of the abstract machine over them (written by wip/whole/gen2.py) -/
def SHT : List ex_C := [cA 4,
  cA 6,
  cA 6,
  cO 11 [some (some 5), some (some 28), some (some 29), some (some 33), some (some 47), some (some 51), some (some 54), some (some 57), some (some 60), none, none, none],
  cO 1 [some (some 6), some (some 18), some (some 21), some (some 25), some (some 26), some (some 27), none, none, none, none, none, none, none],
  cO 2 [none, none, some (some 7), some (some 8), some (some 9), some (some 10), some (some 11), some (some 12), some (some 13), some (some 14), some (some 15), some (some 16), some (some 17)],
  cA 5,
  cA 5,
  cA 5,
  cA 5,
  cA 5,
  cA 5,
  cA 5,
  cA 5,
  cA 40,
  cA 48,
  cA 8,
  cO 4 [none, some (some 19), some (some 20)],
  cA 60,
  cA 60,
  cO 3 [none, some (some 22), some (some 23), some (some 24)],
  cA 30,
  cA 30,
  cA 30,
  cA 25,
  cA 16,
  cA 7,
  cQ [some 64, some 87, some 110, some 133, some 156, some 179, some 202, some 225, some 248, some 271, some 294, some 317, some 340, some 363, some 386, some 409],
  cO 9 [some (some 30), some (some 31), some (some 32)],
  cA 4,
  cA 4,
  cA 80,
  cO 10 [some (some 34), some (some 35), none],
  cA 3,
  cO 2 [none, none, some (some 36), some (some 37), some (some 38), some (some 39), some (some 40), some (some 41), some (some 42), some (some 43), some (some 44), some (some 45), some (some 46)],
  cA 5,
  cA 5,
  cA 5,
  cA 5,
  cA 5,
  cA 5,
  cA 5,
  cA 5,
  cA 40,
  cA 48,
  cA 8,
  cO 5 [some (some 48), some (some 49), some (some 50), none],
  cA 7,
  cA 7,
  cA 5,
  cO 0 [some (some 52), some (some 53)],
  cA 24,
  cA 8,
  cO 6 [some (some 55), some (some 56), none],
  cA 5,
  cA 5,
  cO 8 [some (some 58), some (some 59)],
  cA 5,
  cA 7,
  cO 7 [some (some 61), none, some (some 62), some (some 63), none],
  cA 8,
  cA 8,
  cA 5,
  cO 1 [some (some 65), some (some 77), some (some 80), some (some 84), some (some 85), some (some 86), none, none, none, none, none, none, none],
  cO 2 [none, none, some (some 66), some (some 67), some (some 68), some (some 69), some (some 70), some (some 71), some (some 72), some (some 73), some (some 74), some (some 75), some (some 76)],
  cA 5,
  cA 5,
  cA 5,
  cA 5,
  cA 5,
  cA 5,
  cA 5,
  cA 5,
  cA 40,
  cA 48,
  cA 8,
  cO 4 [none, some (some 78), some (some 79)],
  cA 60,
  cA 60,
  cO 3 [none, some (some 81), some (some 82), some (some 83)],
  cA 30,
  cA 30,
  cA 30,
  cA 25,
  cA 16,
  cA 7,
  cO 1 [some (some 88), some (some 100), some (some 103), some (some 107), some (some 108), some (some 109), none, none, none, none, none, none, none],
  cO 2 [none, none, some (some 89), some (some 90), some (some 91), some (some 92), some (some 93), some (some 94), some (some 95), some (some 96), some (some 97), some (some 98), some (some 99)],
  cA 5,
  cA 5,
  cA 5,
  cA 5,
  cA 5,
  cA 5,
  cA 5,
  cA 5,
  cA 40,
  cA 48,
  cA 8,
  cO 4 [none, some (some 101), some (some 102)],
  cA 60,
  cA 60,
  cO 3 [none, some (some 104), some (some 105), some (some 106)],
  cA 30,
  cA 30,
  cA 30,
  cA 25,
  cA 16,
  cA 7,
  cO 1 [some (some 111), some (some 123), some (some 126), some (some 130), some (some 131), some (some 132), none, none, none, none, none, none, none],
  cO 2 [none, none, some (some 112), some (some 113), some (some 114), some (some 115), some (some 116), some (some 117), some (some 118), some (some 119), some (some 120), some (some 121), some (some 122)],
  cA 5,
  cA 5,
  cA 5,
  cA 5,
  cA 5,
  cA 5,
  cA 5,
  cA 5,
  cA 40,
  cA 48,
  cA 8,
  cO 4 [none, some (some 124), some (some 125)],
  cA 60,
  cA 60,
  cO 3 [none, some (some 127), some (some 128), some (some 129)],
  cA 30,
  cA 30,
  cA 30,
  cA 25,
  cA 16,
  cA 7,
  cO 1 [some (some 134), some (some 146), some (some 149), some (some 153), some (some 154), some (some 155), none, none, none, none, none, none, none],
  cO 2 [none, none, some (some 135), some (some 136), some (some 137), some (some 138), some (some 139), some (some 140), some (some 141), some (some 142), some (some 143), some (some 144), some (some 145)],
  cA 5,
  cA 5,
  cA 5,
  cA 5,
  cA 5,
  cA 5,
  cA 5,
  cA 5,
  cA 40,
  cA 48,
  cA 8,
  cO 4 [none, some (some 147), some (some 148)],
  cA 60,
  cA 60,
  cO 3 [none, some (some 150), some (some 151), some (some 152)],
  cA 30,
  cA 30,
  cA 30,
  cA 25,
  cA 16,
  cA 7,
  cO 1 [some (some 157), some (some 169), some (some 172), some (some 176), some (some 177), some (some 178), none, none, none, none, none, none, none],
  cO 2 [none, none, some (some 158), some (some 159), some (some 160), some (some 161), some (some 162), some (some 163), some (some 164), some (some 165), some (some 166), some (some 167), some (some 168)],
  cA 5,
  cA 5,
  cA 5,
  cA 5,
  cA 5,
  cA 5,
  cA 5,
  cA 5,
  cA 40,
  cA 48,
  cA 8,
  cO 4 [none, some (some 170), some (some 171)],
  cA 60,
  cA 60,
  cO 3 [none, some (some 173), some (some 174), some (some 175)],
  cA 30,
  cA 30,
  cA 30,
  cA 25,
  cA 16,
  cA 7,
  cO 1 [some (some 180), some (some 192), some (some 195), some (some 199), some (some 200), some (some 201), none, none, none, none, none, none, none],
  cO 2 [none, none, some (some 181), some (some 182), some (some 183), some (some 184), some (some 185), some (some 186), some (some 187), some (some 188), some (some 189), some (some 190), some (some 191)],
  cA 5,
  cA 5,
  cA 5,
  cA 5,
  cA 5,
  cA 5,
  cA 5,
  cA 5,
  cA 40,
  cA 48,
  cA 8,
  cO 4 [none, some (some 193), some (some 194)],
  cA 60,
  cA 60,
  cO 3 [none, some (some 196), some (some 197), some (some 198)],
  cA 30,
  cA 30,
  cA 30,
  cA 25,
  cA 16,
  cA 7,
  cO 1 [some (some 203), some (some 215), some (some 218), some (some 222), some (some 223), some (some 224), none, none, none, none, none, none, none],
  cO 2 [none, none, some (some 204), some (some 205), some (some 206), some (some 207), some (some 208), some (some 209), some (some 210), some (some 211), some (some 212), some (some 213), some (some 214)],
  cA 5,
  cA 5,
  cA 5,
  cA 5,
  cA 5,
  cA 5,
  cA 5,
  cA 5,
  cA 40,
  cA 48,
  cA 8,
  cO 4 [none, some (some 216), some (some 217)],
  cA 60,
  cA 60,
  cO 3 [none, some (some 219), some (some 220), some (some 221)],
  cA 30,
  cA 30,
  cA 30,
  cA 25,
  cA 16,
  cA 7,
  cO 1 [some (some 226), some (some 238), some (some 241), some (some 245), some (some 246), some (some 247), none, none, none, none, none, none, none],
  cO 2 [none, none, some (some 227), some (some 228), some (some 229), some (some 230), some (some 231), some (some 232), some (some 233), some (some 234), some (some 235), some (some 236), some (some 237)],
  cA 5,
  cA 5,
  cA 5,
  cA 5,
  cA 5,
  cA 5,
  cA 5,
  cA 5,
  cA 40,
  cA 48,
  cA 8,
  cO 4 [none, some (some 239), some (some 240)],
  cA 60,
  cA 60,
  cO 3 [none, some (some 242), some (some 243), some (some 244)],
  cA 30,
  cA 30,
  cA 30,
  cA 25,
  cA 16,
  cA 7,
  cO 1 [some (some 249), some (some 261), some (some 264), some (some 268), some (some 269), some (some 270), none, none, none, none, none, none, none],
  cO 2 [none, none, some (some 250), some (some 251), some (some 252), some (some 253), some (some 254), some (some 255), some (some 256), some (some 257), some (some 258), some (some 259), some (some 260)],
  cA 5,
  cA 5,
  cA 5,
  cA 5,
  cA 5,
  cA 5,
  cA 5,
  cA 5,
  cA 40,
  cA 48,
  cA 8,
  cO 4 [none, some (some 262), some (some 263)],
  cA 60,
  cA 60,
  cO 3 [none, some (some 265), some (some 266), some (some 267)],
  cA 30,
  cA 30,
  cA 30,
  cA 25,
  cA 16,
  cA 7,
  cO 1 [some (some 272), some (some 284), some (some 287), some (some 291), some (some 292), some (some 293), none, none, none, none, none, none, none],
  cO 2 [none, none, some (some 273), some (some 274), some (some 275), some (some 276), some (some 277), some (some 278), some (some 279), some (some 280), some (some 281), some (some 282), some (some 283)],
  cA 5,
  cA 5,
  cA 5,
  cA 5,
  cA 5,
  cA 5,
  cA 5,
  cA 5,
  cA 40,
  cA 48,
  cA 8,
  cO 4 [none, some (some 285), some (some 286)],
  cA 60,
  cA 60,
  cO 3 [none, some (some 288), some (some 289), some (some 290)],
  cA 30,
  cA 30,
  cA 30,
  cA 25,
  cA 16,
  cA 7,
  cO 1 [some (some 295), some (some 307), some (some 310), some (some 314), some (some 315), some (some 316), none, none, none, none, none, none, none],
  cO 2 [none, none, some (some 296), some (some 297), some (some 298), some (some 299), some (some 300), some (some 301), some (some 302), some (some 303), some (some 304), some (some 305), some (some 306)],
  cA 5,
  cA 5,
  cA 5,
  cA 5,
  cA 5,
  cA 5,
  cA 5,
  cA 5,
  cA 40,
  cA 48,
  cA 8,
  cO 4 [none, some (some 308), some (some 309)],
  cA 60,
  cA 60,
  cO 3 [none, some (some 311), some (some 312), some (some 313)],
  cA 30,
  cA 30,
  cA 30,
  cA 25,
  cA 16,
  cA 7,
  cO 1 [some (some 318), some (some 330), some (some 333), some (some 337), some (some 338), some (some 339), none, none, none, none, none, none, none],
  cO 2 [none, none, some (some 319), some (some 320), some (some 321), some (some 322), some (some 323), some (some 324), some (some 325), some (some 326), some (some 327), some (some 328), some (some 329)],
  cA 5,
  cA 5,
  cA 5,
  cA 5,
  cA 5,
  cA 5,
  cA 5,
  cA 5,
  cA 40,
  cA 48,
  cA 8,
  cO 4 [none, some (some 331), some (some 332)],
  cA 60,
  cA 60,
  cO 3 [none, some (some 334), some (some 335), some (some 336)],
  cA 30,
  cA 30,
  cA 30,
  cA 25,
  cA 16,
  cA 7,
  cO 1 [some (some 341), some (some 353), some (some 356), some (some 360), some (some 361), some (some 362), none, none, none, none, none, none, none],
  cO 2 [none, none, some (some 342), some (some 343), some (some 344), some (some 345), some (some 346), some (some 347), some (some 348), some (some 349), some (some 350), some (some 351), some (some 352)],
  cA 5,
  cA 5,
  cA 5,
  cA 5,
  cA 5,
  cA 5,
  cA 5,
  cA 5,
  cA 40,
  cA 48,
  cA 8,
  cO 4 [none, some (some 354), some (some 355)],
  cA 60,
  cA 60,
  cO 3 [none, some (some 357), some (some 358), some (some 359)],
  cA 30,
  cA 30,
  cA 30,
  cA 25,
  cA 16,
  cA 7,
  cO 1 [some (some 364), some (some 376), some (some 379), some (some 383), some (some 384), some (some 385), none, none, none, none, none, none, none],
  cO 2 [none, none, some (some 365), some (some 366), some (some 367), some (some 368), some (some 369), some (some 370), some (some 371), some (some 372), some (some 373), some (some 374), some (some 375)],
  cA 5,
  cA 5,
  cA 5,
  cA 5,
  cA 5,
  cA 5,
  cA 5,
  cA 5,
  cA 40,
  cA 48,
  cA 8,
  cO 4 [none, some (some 377), some (some 378)],
  cA 60,
  cA 60,
  cO 3 [none, some (some 380), some (some 381), some (some 382)],
  cA 30,
  cA 30,
  cA 30,
  cA 25,
  cA 16,
  cA 7,
  cO 1 [some (some 387), some (some 399), some (some 402), some (some 406), some (some 407), some (some 408), none, none, none, none, none, none, none],
  cO 2 [none, none, some (some 388), some (some 389), some (some 390), some (some 391), some (some 392), some (some 393), some (some 394), some (some 395), some (some 396), some (some 397), some (some 398)],
  cA 5,
  cA 5,
  cA 5,
  cA 5,
  cA 5,
  cA 5,
  cA 5,
  cA 5,
  cA 40,
  cA 48,
  cA 8,
  cO 4 [none, some (some 400), some (some 401)],
  cA 60,
  cA 60,
  cO 3 [none, some (some 403), some (some 404), some (some 405)],
  cA 30,
  cA 30,
  cA 30,
  cA 25,
  cA 16,
  cA 7,
  cO 1 [some (some 410), some (some 422), some (some 425), some (some 429), some (some 430), some (some 431), none, none, none, none, none, none, none],
  cO 2 [none, none, some (some 411), some (some 412), some (some 413), some (some 414), some (some 415), some (some 416), some (some 417), some (some 418), some (some 419), some (some 420), some (some 421)],
  cA 5,
  cA 5,
  cA 5,
  cA 5,
  cA 5,
  cA 5,
  cA 5,
  cA 5,
  cA 40,
  cA 48,
  cA 8,
  cO 4 [none, some (some 423), some (some 424)],
  cA 60,
  cA 60,
  cO 3 [none, some (some 426), some (some 427), some (some 428)],
  cA 30,
  cA 30,
  cA 30,
  cA 25,
  cA 16,
  cA 7,
  cO 12 [some (some 433), some (some 434), none, none, some (some 435), some (some 436), some (some 437), some (some 438), some (some 439), some (some 440), some (some 441), none, some (some 442), some (some 443), some (some 444), none, none, some (some 445), some (some 446), some (some 447), some (some 448)],
  cA 277,
  cA 4432,
  cA 4,
  cA 4,
  cA 80,
  cA 200,
  cA 3,
  cA 7,
  cA 7,
  cA 8,
  cA 5,
  cA 5,
  cA 8,
  cA 8,
  cA 5,
  cA 20]
def SH (L : Nat) : List ex_C := cA L :: SHT
section XR
variable {rt d : Nat} {J : Nat → List ex_V → List ex_V → ex_H → Option ex_R} {C : Nat → List ex_V → ex_H → Option ex_R} {is : List Instr} {ls st : List ex_V} {h : ex_H}
theorem xs_of (ls' st' : List ex_V) (h' : ex_H) {i : Instr} (e : ex_st rt ls st h i = oN ls' st' h') : ex_xs rt J C (i :: is) ls st h = ex_xs rt J C is ls' st' h' := by
  rw [ex_xs, e]
theorem xs_ofJ (b : Nat) (ls' st' : List ex_V) (h' : ex_H) {i : Instr} (e : ex_st rt ls st h i = oJ b ls' st' h') : ex_xs rt J C (i :: is) ls st h = J b ls' st' h' := by
  rw [ex_xs, e]
theorem xl_i0 {z : Int} {l : List ex_V} : ex_xs rt J C (.iload 0 :: is) (vI z :: l) st h = ex_xs rt J C is (vI z :: l) (vI z :: st) h := rfl
theorem xl_a0 {z : Nat} {l : List ex_V} : ex_xs rt J C (.aload 0 :: is) (vR z :: l) st h = ex_xs rt J C is (vR z :: l) (vR z :: st) h := rfl
theorem xt_i0 {w : ex_V} {z : Int} {l : List ex_V} : ex_xs rt J C (.istore 0 :: is) (w :: l) (vI z :: st) h = ex_xs rt J C is (vI z :: l) st h := xs_of _ _ _ (by dsimp only [ex_st]; rw [if_pos (by simp only [List.length_cons]; omega)]; rfl)
theorem xt_a0 {w : ex_V} {z : Nat} {l : List ex_V} : ex_xs rt J C (.astore 0 :: is) (w :: l) (vR z :: st) h = ex_xs rt J C is (vR z :: l) st h := xs_of _ _ _ (by dsimp only [ex_st]; rw [if_pos (by simp only [List.length_cons]; omega)]; rfl)
theorem xn_0 {z c : Int} {l : List ex_V} : ex_xs rt J C (.iinc 0 c :: is) (vI z :: l) st h = ex_xs rt J C is (vI (ex_wr (z + c)) :: l) st h := rfl
theorem xl_i1 {v0 : ex_V} {z : Int} {l : List ex_V} : ex_xs rt J C (.iload 1 :: is) (v0 :: vI z :: l) st h = ex_xs rt J C is (v0 :: vI z :: l) (vI z :: st) h := rfl
theorem xl_a1 {v0 : ex_V} {z : Nat} {l : List ex_V} : ex_xs rt J C (.aload 1 :: is) (v0 :: vR z :: l) st h = ex_xs rt J C is (v0 :: vR z :: l) (vR z :: st) h := rfl
theorem xt_i1 {v0 : ex_V} {w : ex_V} {z : Int} {l : List ex_V} : ex_xs rt J C (.istore 1 :: is) (v0 :: w :: l) (vI z :: st) h = ex_xs rt J C is (v0 :: vI z :: l) st h := xs_of _ _ _ (by dsimp only [ex_st]; rw [if_pos (by simp only [List.length_cons]; omega)]; rfl)
theorem xt_a1 {v0 : ex_V} {w : ex_V} {z : Nat} {l : List ex_V} : ex_xs rt J C (.astore 1 :: is) (v0 :: w :: l) (vR z :: st) h = ex_xs rt J C is (v0 :: vR z :: l) st h := xs_of _ _ _ (by dsimp only [ex_st]; rw [if_pos (by simp only [List.length_cons]; omega)]; rfl)
theorem xn_1 {v0 : ex_V} {z c : Int} {l : List ex_V} : ex_xs rt J C (.iinc 1 c :: is) (v0 :: vI z :: l) st h = ex_xs rt J C is (v0 :: vI (ex_wr (z + c)) :: l) st h := rfl
theorem xl_i2 {v0 v1 : ex_V} {z : Int} {l : List ex_V} : ex_xs rt J C (.iload 2 :: is) (v0 :: v1 :: vI z :: l) st h = ex_xs rt J C is (v0 :: v1 :: vI z :: l) (vI z :: st) h := rfl
theorem xl_a2 {v0 v1 : ex_V} {z : Nat} {l : List ex_V} : ex_xs rt J C (.aload 2 :: is) (v0 :: v1 :: vR z :: l) st h = ex_xs rt J C is (v0 :: v1 :: vR z :: l) (vR z :: st) h := rfl
theorem xt_i2 {v0 v1 : ex_V} {w : ex_V} {z : Int} {l : List ex_V} : ex_xs rt J C (.istore 2 :: is) (v0 :: v1 :: w :: l) (vI z :: st) h = ex_xs rt J C is (v0 :: v1 :: vI z :: l) st h := xs_of _ _ _ (by dsimp only [ex_st]; rw [if_pos (by simp only [List.length_cons]; omega)]; rfl)
theorem xt_a2 {v0 v1 : ex_V} {w : ex_V} {z : Nat} {l : List ex_V} : ex_xs rt J C (.astore 2 :: is) (v0 :: v1 :: w :: l) (vR z :: st) h = ex_xs rt J C is (v0 :: v1 :: vR z :: l) st h := xs_of _ _ _ (by dsimp only [ex_st]; rw [if_pos (by simp only [List.length_cons]; omega)]; rfl)
theorem xn_2 {v0 v1 : ex_V} {z c : Int} {l : List ex_V} : ex_xs rt J C (.iinc 2 c :: is) (v0 :: v1 :: vI z :: l) st h = ex_xs rt J C is (v0 :: v1 :: vI (ex_wr (z + c)) :: l) st h := rfl
theorem xl_i3 {v0 v1 v2 : ex_V} {z : Int} {l : List ex_V} : ex_xs rt J C (.iload 3 :: is) (v0 :: v1 :: v2 :: vI z :: l) st h = ex_xs rt J C is (v0 :: v1 :: v2 :: vI z :: l) (vI z :: st) h := rfl
theorem xl_a3 {v0 v1 v2 : ex_V} {z : Nat} {l : List ex_V} : ex_xs rt J C (.aload 3 :: is) (v0 :: v1 :: v2 :: vR z :: l) st h = ex_xs rt J C is (v0 :: v1 :: v2 :: vR z :: l) (vR z :: st) h := rfl
theorem xt_i3 {v0 v1 v2 : ex_V} {w : ex_V} {z : Int} {l : List ex_V} : ex_xs rt J C (.istore 3 :: is) (v0 :: v1 :: v2 :: w :: l) (vI z :: st) h = ex_xs rt J C is (v0 :: v1 :: v2 :: vI z :: l) st h := xs_of _ _ _ (by dsimp only [ex_st]; rw [if_pos (by simp only [List.length_cons]; omega)]; rfl)
theorem xt_a3 {v0 v1 v2 : ex_V} {w : ex_V} {z : Nat} {l : List ex_V} : ex_xs rt J C (.astore 3 :: is) (v0 :: v1 :: v2 :: w :: l) (vR z :: st) h = ex_xs rt J C is (v0 :: v1 :: v2 :: vR z :: l) st h := xs_of _ _ _ (by dsimp only [ex_st]; rw [if_pos (by simp only [List.length_cons]; omega)]; rfl)
theorem xn_3 {v0 v1 v2 : ex_V} {z c : Int} {l : List ex_V} : ex_xs rt J C (.iinc 3 c :: is) (v0 :: v1 :: v2 :: vI z :: l) st h = ex_xs rt J C is (v0 :: v1 :: v2 :: vI (ex_wr (z + c)) :: l) st h := rfl
theorem xl_i4 {v0 v1 v2 v3 : ex_V} {z : Int} {l : List ex_V} : ex_xs rt J C (.iload 4 :: is) (v0 :: v1 :: v2 :: v3 :: vI z :: l) st h = ex_xs rt J C is (v0 :: v1 :: v2 :: v3 :: vI z :: l) (vI z :: st) h := rfl
theorem xl_a4 {v0 v1 v2 v3 : ex_V} {z : Nat} {l : List ex_V} : ex_xs rt J C (.aload 4 :: is) (v0 :: v1 :: v2 :: v3 :: vR z :: l) st h = ex_xs rt J C is (v0 :: v1 :: v2 :: v3 :: vR z :: l) (vR z :: st) h := rfl
theorem xt_i4 {v0 v1 v2 v3 : ex_V} {w : ex_V} {z : Int} {l : List ex_V} : ex_xs rt J C (.istore 4 :: is) (v0 :: v1 :: v2 :: v3 :: w :: l) (vI z :: st) h = ex_xs rt J C is (v0 :: v1 :: v2 :: v3 :: vI z :: l) st h := xs_of _ _ _ (by dsimp only [ex_st]; rw [if_pos (by simp only [List.length_cons]; omega)]; rfl)
theorem xt_a4 {v0 v1 v2 v3 : ex_V} {w : ex_V} {z : Nat} {l : List ex_V} : ex_xs rt J C (.astore 4 :: is) (v0 :: v1 :: v2 :: v3 :: w :: l) (vR z :: st) h = ex_xs rt J C is (v0 :: v1 :: v2 :: v3 :: vR z :: l) st h := xs_of _ _ _ (by dsimp only [ex_st]; rw [if_pos (by simp only [List.length_cons]; omega)]; rfl)
theorem xn_4 {v0 v1 v2 v3 : ex_V} {z c : Int} {l : List ex_V} : ex_xs rt J C (.iinc 4 c :: is) (v0 :: v1 :: v2 :: v3 :: vI z :: l) st h = ex_xs rt J C is (v0 :: v1 :: v2 :: v3 :: vI (ex_wr (z + c)) :: l) st h := rfl
theorem xl_i5 {v0 v1 v2 v3 v4 : ex_V} {z : Int} {l : List ex_V} : ex_xs rt J C (.iload 5 :: is) (v0 :: v1 :: v2 :: v3 :: v4 :: vI z :: l) st h = ex_xs rt J C is (v0 :: v1 :: v2 :: v3 :: v4 :: vI z :: l) (vI z :: st) h := rfl
theorem xl_a5 {v0 v1 v2 v3 v4 : ex_V} {z : Nat} {l : List ex_V} : ex_xs rt J C (.aload 5 :: is) (v0 :: v1 :: v2 :: v3 :: v4 :: vR z :: l) st h = ex_xs rt J C is (v0 :: v1 :: v2 :: v3 :: v4 :: vR z :: l) (vR z :: st) h := rfl
theorem xt_i5 {v0 v1 v2 v3 v4 : ex_V} {w : ex_V} {z : Int} {l : List ex_V} : ex_xs rt J C (.istore 5 :: is) (v0 :: v1 :: v2 :: v3 :: v4 :: w :: l) (vI z :: st) h = ex_xs rt J C is (v0 :: v1 :: v2 :: v3 :: v4 :: vI z :: l) st h := xs_of _ _ _ (by dsimp only [ex_st]; rw [if_pos (by simp only [List.length_cons]; omega)]; rfl)
theorem xt_a5 {v0 v1 v2 v3 v4 : ex_V} {w : ex_V} {z : Nat} {l : List ex_V} : ex_xs rt J C (.astore 5 :: is) (v0 :: v1 :: v2 :: v3 :: v4 :: w :: l) (vR z :: st) h = ex_xs rt J C is (v0 :: v1 :: v2 :: v3 :: v4 :: vR z :: l) st h := xs_of _ _ _ (by dsimp only [ex_st]; rw [if_pos (by simp only [List.length_cons]; omega)]; rfl)
theorem xn_5 {v0 v1 v2 v3 v4 : ex_V} {z c : Int} {l : List ex_V} : ex_xs rt J C (.iinc 5 c :: is) (v0 :: v1 :: v2 :: v3 :: v4 :: vI z :: l) st h = ex_xs rt J C is (v0 :: v1 :: v2 :: v3 :: v4 :: vI (ex_wr (z + c)) :: l) st h := rfl
theorem xl_i6 {v0 v1 v2 v3 v4 v5 : ex_V} {z : Int} {l : List ex_V} : ex_xs rt J C (.iload 6 :: is) (v0 :: v1 :: v2 :: v3 :: v4 :: v5 :: vI z :: l) st h = ex_xs rt J C is (v0 :: v1 :: v2 :: v3 :: v4 :: v5 :: vI z :: l) (vI z :: st) h := rfl
theorem xl_a6 {v0 v1 v2 v3 v4 v5 : ex_V} {z : Nat} {l : List ex_V} : ex_xs rt J C (.aload 6 :: is) (v0 :: v1 :: v2 :: v3 :: v4 :: v5 :: vR z :: l) st h = ex_xs rt J C is (v0 :: v1 :: v2 :: v3 :: v4 :: v5 :: vR z :: l) (vR z :: st) h := rfl
theorem xt_i6 {v0 v1 v2 v3 v4 v5 : ex_V} {w : ex_V} {z : Int} {l : List ex_V} : ex_xs rt J C (.istore 6 :: is) (v0 :: v1 :: v2 :: v3 :: v4 :: v5 :: w :: l) (vI z :: st) h = ex_xs rt J C is (v0 :: v1 :: v2 :: v3 :: v4 :: v5 :: vI z :: l) st h := xs_of _ _ _ (by dsimp only [ex_st]; rw [if_pos (by simp only [List.length_cons]; omega)]; rfl)
theorem xt_a6 {v0 v1 v2 v3 v4 v5 : ex_V} {w : ex_V} {z : Nat} {l : List ex_V} : ex_xs rt J C (.astore 6 :: is) (v0 :: v1 :: v2 :: v3 :: v4 :: v5 :: w :: l) (vR z :: st) h = ex_xs rt J C is (v0 :: v1 :: v2 :: v3 :: v4 :: v5 :: vR z :: l) st h := xs_of _ _ _ (by dsimp only [ex_st]; rw [if_pos (by simp only [List.length_cons]; omega)]; rfl)
theorem xn_6 {v0 v1 v2 v3 v4 v5 : ex_V} {z c : Int} {l : List ex_V} : ex_xs rt J C (.iinc 6 c :: is) (v0 :: v1 :: v2 :: v3 :: v4 :: v5 :: vI z :: l) st h = ex_xs rt J C is (v0 :: v1 :: v2 :: v3 :: v4 :: v5 :: vI (ex_wr (z + c)) :: l) st h := rfl
theorem xl_i7 {v0 v1 v2 v3 v4 v5 v6 : ex_V} {z : Int} {l : List ex_V} : ex_xs rt J C (.iload 7 :: is) (v0 :: v1 :: v2 :: v3 :: v4 :: v5 :: v6 :: vI z :: l) st h = ex_xs rt J C is (v0 :: v1 :: v2 :: v3 :: v4 :: v5 :: v6 :: vI z :: l) (vI z :: st) h := rfl
theorem xl_a7 {v0 v1 v2 v3 v4 v5 v6 : ex_V} {z : Nat} {l : List ex_V} : ex_xs rt J C (.aload 7 :: is) (v0 :: v1 :: v2 :: v3 :: v4 :: v5 :: v6 :: vR z :: l) st h = ex_xs rt J C is (v0 :: v1 :: v2 :: v3 :: v4 :: v5 :: v6 :: vR z :: l) (vR z :: st) h := rfl
theorem xt_i7 {v0 v1 v2 v3 v4 v5 v6 : ex_V} {w : ex_V} {z : Int} {l : List ex_V} : ex_xs rt J C (.istore 7 :: is) (v0 :: v1 :: v2 :: v3 :: v4 :: v5 :: v6 :: w :: l) (vI z :: st) h = ex_xs rt J C is (v0 :: v1 :: v2 :: v3 :: v4 :: v5 :: v6 :: vI z :: l) st h := xs_of _ _ _ (by dsimp only [ex_st]; rw [if_pos (by simp only [List.length_cons]; omega)]; rfl)
theorem xt_a7 {v0 v1 v2 v3 v4 v5 v6 : ex_V} {w : ex_V} {z : Nat} {l : List ex_V} : ex_xs rt J C (.astore 7 :: is) (v0 :: v1 :: v2 :: v3 :: v4 :: v5 :: v6 :: w :: l) (vR z :: st) h = ex_xs rt J C is (v0 :: v1 :: v2 :: v3 :: v4 :: v5 :: v6 :: vR z :: l) st h := xs_of _ _ _ (by dsimp only [ex_st]; rw [if_pos (by simp only [List.length_cons]; omega)]; rfl)
theorem xn_7 {v0 v1 v2 v3 v4 v5 v6 : ex_V} {z c : Int} {l : List ex_V} : ex_xs rt J C (.iinc 7 c :: is) (v0 :: v1 :: v2 :: v3 :: v4 :: v5 :: v6 :: vI z :: l) st h = ex_xs rt J C is (v0 :: v1 :: v2 :: v3 :: v4 :: v5 :: v6 :: vI (ex_wr (z + c)) :: l) st h := rfl
theorem xl_i8 {v0 v1 v2 v3 v4 v5 v6 v7 : ex_V} {z : Int} {l : List ex_V} : ex_xs rt J C (.iload 8 :: is) (v0 :: v1 :: v2 :: v3 :: v4 :: v5 :: v6 :: v7 :: vI z :: l) st h = ex_xs rt J C is (v0 :: v1 :: v2 :: v3 :: v4 :: v5 :: v6 :: v7 :: vI z :: l) (vI z :: st) h := rfl
theorem xl_a8 {v0 v1 v2 v3 v4 v5 v6 v7 : ex_V} {z : Nat} {l : List ex_V} : ex_xs rt J C (.aload 8 :: is) (v0 :: v1 :: v2 :: v3 :: v4 :: v5 :: v6 :: v7 :: vR z :: l) st h = ex_xs rt J C is (v0 :: v1 :: v2 :: v3 :: v4 :: v5 :: v6 :: v7 :: vR z :: l) (vR z :: st) h := rfl
theorem xt_i8 {v0 v1 v2 v3 v4 v5 v6 v7 : ex_V} {w : ex_V} {z : Int} {l : List ex_V} : ex_xs rt J C (.istore 8 :: is) (v0 :: v1 :: v2 :: v3 :: v4 :: v5 :: v6 :: v7 :: w :: l) (vI z :: st) h = ex_xs rt J C is (v0 :: v1 :: v2 :: v3 :: v4 :: v5 :: v6 :: v7 :: vI z :: l) st h := xs_of _ _ _ (by dsimp only [ex_st]; rw [if_pos (by simp only [List.length_cons]; omega)]; rfl)
theorem xt_a8 {v0 v1 v2 v3 v4 v5 v6 v7 : ex_V} {w : ex_V} {z : Nat} {l : List ex_V} : ex_xs rt J C (.astore 8 :: is) (v0 :: v1 :: v2 :: v3 :: v4 :: v5 :: v6 :: v7 :: w :: l) (vR z :: st) h = ex_xs rt J C is (v0 :: v1 :: v2 :: v3 :: v4 :: v5 :: v6 :: v7 :: vR z :: l) st h := xs_of _ _ _ (by dsimp only [ex_st]; rw [if_pos (by simp only [List.length_cons]; omega)]; rfl)
theorem xn_8 {v0 v1 v2 v3 v4 v5 v6 v7 : ex_V} {z c : Int} {l : List ex_V} : ex_xs rt J C (.iinc 8 c :: is) (v0 :: v1 :: v2 :: v3 :: v4 :: v5 :: v6 :: v7 :: vI z :: l) st h = ex_xs rt J C is (v0 :: v1 :: v2 :: v3 :: v4 :: v5 :: v6 :: v7 :: vI (ex_wr (z + c)) :: l) st h := rfl
theorem xl_i9 {v0 v1 v2 v3 v4 v5 v6 v7 v8 : ex_V} {z : Int} {l : List ex_V} : ex_xs rt J C (.iload 9 :: is) (v0 :: v1 :: v2 :: v3 :: v4 :: v5 :: v6 :: v7 :: v8 :: vI z :: l) st h = ex_xs rt J C is (v0 :: v1 :: v2 :: v3 :: v4 :: v5 :: v6 :: v7 :: v8 :: vI z :: l) (vI z :: st) h := rfl
theorem xl_a9 {v0 v1 v2 v3 v4 v5 v6 v7 v8 : ex_V} {z : Nat} {l : List ex_V} : ex_xs rt J C (.aload 9 :: is) (v0 :: v1 :: v2 :: v3 :: v4 :: v5 :: v6 :: v7 :: v8 :: vR z :: l) st h = ex_xs rt J C is (v0 :: v1 :: v2 :: v3 :: v4 :: v5 :: v6 :: v7 :: v8 :: vR z :: l) (vR z :: st) h := rfl
theorem xt_i9 {v0 v1 v2 v3 v4 v5 v6 v7 v8 : ex_V} {w : ex_V} {z : Int} {l : List ex_V} : ex_xs rt J C (.istore 9 :: is) (v0 :: v1 :: v2 :: v3 :: v4 :: v5 :: v6 :: v7 :: v8 :: w :: l) (vI z :: st) h = ex_xs rt J C is (v0 :: v1 :: v2 :: v3 :: v4 :: v5 :: v6 :: v7 :: v8 :: vI z :: l) st h := xs_of _ _ _ (by dsimp only [ex_st]; rw [if_pos (by simp only [List.length_cons]; omega)]; rfl)
theorem xt_a9 {v0 v1 v2 v3 v4 v5 v6 v7 v8 : ex_V} {w : ex_V} {z : Nat} {l : List ex_V} : ex_xs rt J C (.astore 9 :: is) (v0 :: v1 :: v2 :: v3 :: v4 :: v5 :: v6 :: v7 :: v8 :: w :: l) (vR z :: st) h = ex_xs rt J C is (v0 :: v1 :: v2 :: v3 :: v4 :: v5 :: v6 :: v7 :: v8 :: vR z :: l) st h := xs_of _ _ _ (by dsimp only [ex_st]; rw [if_pos (by simp only [List.length_cons]; omega)]; rfl)
theorem xn_9 {v0 v1 v2 v3 v4 v5 v6 v7 v8 : ex_V} {z c : Int} {l : List ex_V} : ex_xs rt J C (.iinc 9 c :: is) (v0 :: v1 :: v2 :: v3 :: v4 :: v5 :: v6 :: v7 :: v8 :: vI z :: l) st h = ex_xs rt J C is (v0 :: v1 :: v2 :: v3 :: v4 :: v5 :: v6 :: v7 :: v8 :: vI (ex_wr (z + c)) :: l) st h := rfl
theorem xl_i10 {v0 v1 v2 v3 v4 v5 v6 v7 v8 v9 : ex_V} {z : Int} {l : List ex_V} : ex_xs rt J C (.iload 10 :: is) (v0 :: v1 :: v2 :: v3 :: v4 :: v5 :: v6 :: v7 :: v8 :: v9 :: vI z :: l) st h = ex_xs rt J C is (v0 :: v1 :: v2 :: v3 :: v4 :: v5 :: v6 :: v7 :: v8 :: v9 :: vI z :: l) (vI z :: st) h := rfl
theorem xl_a10 {v0 v1 v2 v3 v4 v5 v6 v7 v8 v9 : ex_V} {z : Nat} {l : List ex_V} : ex_xs rt J C (.aload 10 :: is) (v0 :: v1 :: v2 :: v3 :: v4 :: v5 :: v6 :: v7 :: v8 :: v9 :: vR z :: l) st h = ex_xs rt J C is (v0 :: v1 :: v2 :: v3 :: v4 :: v5 :: v6 :: v7 :: v8 :: v9 :: vR z :: l) (vR z :: st) h := rfl
theorem xt_i10 {v0 v1 v2 v3 v4 v5 v6 v7 v8 v9 : ex_V} {w : ex_V} {z : Int} {l : List ex_V} : ex_xs rt J C (.istore 10 :: is) (v0 :: v1 :: v2 :: v3 :: v4 :: v5 :: v6 :: v7 :: v8 :: v9 :: w :: l) (vI z :: st) h = ex_xs rt J C is (v0 :: v1 :: v2 :: v3 :: v4 :: v5 :: v6 :: v7 :: v8 :: v9 :: vI z :: l) st h := xs_of _ _ _ (by dsimp only [ex_st]; rw [if_pos (by simp only [List.length_cons]; omega)]; rfl)
theorem xt_a10 {v0 v1 v2 v3 v4 v5 v6 v7 v8 v9 : ex_V} {w : ex_V} {z : Nat} {l : List ex_V} : ex_xs rt J C (.astore 10 :: is) (v0 :: v1 :: v2 :: v3 :: v4 :: v5 :: v6 :: v7 :: v8 :: v9 :: w :: l) (vR z :: st) h = ex_xs rt J C is (v0 :: v1 :: v2 :: v3 :: v4 :: v5 :: v6 :: v7 :: v8 :: v9 :: vR z :: l) st h := xs_of _ _ _ (by dsimp only [ex_st]; rw [if_pos (by simp only [List.length_cons]; omega)]; rfl)
theorem xn_10 {v0 v1 v2 v3 v4 v5 v6 v7 v8 v9 : ex_V} {z c : Int} {l : List ex_V} : ex_xs rt J C (.iinc 10 c :: is) (v0 :: v1 :: v2 :: v3 :: v4 :: v5 :: v6 :: v7 :: v8 :: v9 :: vI z :: l) st h = ex_xs rt J C is (v0 :: v1 :: v2 :: v3 :: v4 :: v5 :: v6 :: v7 :: v8 :: v9 :: vI (ex_wr (z + c)) :: l) st h := rfl
theorem x_push {v : Int} : ex_xs rt J C (.sipush v :: is) ls st h = ex_xs rt J C is ls (vI v :: st) h := rfl
theorem x_iadd {a b : Int} : ex_xs rt J C (.iadd :: is) ls (vI b :: vI a :: st) h = ex_xs rt J C is ls (vI (ex_wr (a + b)) :: st) h := rfl
theorem x_isub {a b : Int} : ex_xs rt J C (.isub :: is) ls (vI b :: vI a :: st) h = ex_xs rt J C is ls (vI (ex_wr (a - b)) :: st) h := rfl
theorem x_imul {a b : Int} : ex_xs rt J C (.imul :: is) ls (vI b :: vI a :: st) h = ex_xs rt J C is ls (vI (ex_wr (a * b)) :: st) h := rfl
theorem x_iand {a b : Int} : ex_xs rt J C (.iand :: is) ls (vI b :: vI a :: st) h = ex_xs rt J C is ls (vI (ex_and a b) :: st) h := rfl
theorem x_ior {a b : Int} : ex_xs rt J C (.ior :: is) ls (vI b :: vI a :: st) h = ex_xs rt J C is ls (vI (ex_or a b) :: st) h := rfl
theorem x_ixor {a b : Int} : ex_xs rt J C (.ixor :: is) ls (vI b :: vI a :: st) h = ex_xs rt J C is ls (vI (ex_xor a b) :: st) h := rfl
theorem x_ishl {a b : Int} : ex_xs rt J C (.ishl :: is) ls (vI b :: vI a :: st) h = ex_xs rt J C is ls (vI (ex_shl a b) :: st) h := rfl
theorem x_ishr {a b : Int} : ex_xs rt J C (.ishr :: is) ls (vI b :: vI a :: st) h = ex_xs rt J C is ls (vI (ex_shr a b) :: st) h := rfl
theorem x_iushr {a b : Int} : ex_xs rt J C (.iushr :: is) ls (vI b :: vI a :: st) h = ex_xs rt J C is ls (vI (ex_ushr a b) :: st) h := rfl
theorem x_idiv {a b : Int} (hb : b ≠ 0) : ex_xs rt J C (.idiv :: is) ls (vI b :: vI a :: st) h = ex_xs rt J C is ls (vI (ex_div a b) :: st) h := xs_of _ _ _ (by dsimp only [ex_st]; rw [if_neg hb])
theorem x_irem {a b : Int} (hb : b ≠ 0) : ex_xs rt J C (.irem :: is) ls (vI b :: vI a :: st) h = ex_xs rt J C is ls (vI (ex_rem a b) :: st) h := xs_of _ _ _ (by dsimp only [ex_st]; rw [if_neg hb])
theorem x_i2l {a : Int} : ex_xs rt J C (.i2l :: is) ls (vI a :: st) h = ex_xs rt J C is ls (vL a :: st) h := rfl
theorem x_ladd {a b : Int} : ex_xs rt J C (.ladd :: is) ls (vL b :: vL a :: st) h = ex_xs rt J C is ls (vL (ex_w64 (a + b)) :: st) h := rfl
theorem x_lcmp {a b : Int} : ex_xs rt J C (.lcmp :: is) ls (vL b :: vL a :: st) h = ex_xs rt J C is ls (vI (if b < a then 1 else if a = b then 0 else -1) :: st) h := rfl
theorem x_dupI {a : Int} : ex_xs rt J C (.dup :: is) ls (vI a :: st) h = ex_xs rt J C is ls (vI a :: vI a :: st) h := rfl
theorem x_dupR {a : Nat} : ex_xs rt J C (.dup :: is) ls (vR a :: st) h = ex_xs rt J C is ls (vR a :: vR a :: st) h := rfl
theorem x_dup2 {a : Nat} {i : Int} : ex_xs rt J C (.dup2 :: is) ls (vI i :: vR a :: st) h = ex_xs rt J C is ls (vI i :: vR a :: vI i :: vR a :: st) h := rfl
theorem x_popI {a : Int} : ex_xs rt J C (.pop :: is) ls (vI a :: st) h = ex_xs rt J C is ls st h := rfl
theorem x_ifnull {a : Nat} {t : Int} : ex_xs rt J C (.ifnull t :: is) ls (vR a :: st) h = ex_xs rt J C is ls st h := rfl
theorem x_gets0 : ex_xs rt J C (.getstatic 0 :: is) ls st h = ex_xs rt J C is ls (vR 1 :: st) h := rfl
theorem x_gets1 : ex_xs rt J C (.getstatic 1 :: is) ls st h = ex_xs rt J C is ls (vR 2 :: st) h := rfl
theorem x_gets2 : ex_xs rt J C (.getstatic 2 :: is) ls st h = ex_xs rt J C is ls (vR 3 :: st) h := rfl
theorem x_goto {t : Int} : ex_xs rt J C (.goto t :: is) ls st h = J t.toNat ls st h := rfl
theorem x_fall {t : Int} : ex_xs rt J C (.goto_w t :: is) ls st h = J t.toNat ls st h := rfl
theorem x_cmp_eq {a b t : Int} : ex_xs rt J C (.if_icmp .eq t :: is) ls (vI b :: vI a :: st) h = if a = b then J t.toNat ls st h else ex_xs rt J C is ls st h := by by_cases q : a = b; rw [if_pos q]; exact xs_ofJ _ _ _ _ (ex_if_t (c := .eq) q); rw [if_neg q]; exact xs_of _ _ _ (ex_if_f (c := .eq) q)
theorem x_if_eq {a t : Int} : ex_xs rt J C (.ifCond .eq t :: is) ls (vI a :: st) h = if a = 0 then J t.toNat ls st h else ex_xs rt J C is ls st h := by by_cases q : a = 0; rw [if_pos q]; exact xs_ofJ _ _ _ _ (ex_if_t (c := .eq) (b := 0) q); rw [if_neg q]; exact xs_of _ _ _ (ex_if_f (c := .eq) (b := 0) q)
theorem x_cmp_ne {a b t : Int} : ex_xs rt J C (.if_icmp .ne t :: is) ls (vI b :: vI a :: st) h = if a ≠ b then J t.toNat ls st h else ex_xs rt J C is ls st h := by by_cases q : a ≠ b; rw [if_pos q]; exact xs_ofJ _ _ _ _ (ex_if_t (c := .ne) q); rw [if_neg q]; exact xs_of _ _ _ (ex_if_f (c := .ne) q)
theorem x_if_ne {a t : Int} : ex_xs rt J C (.ifCond .ne t :: is) ls (vI a :: st) h = if a ≠ 0 then J t.toNat ls st h else ex_xs rt J C is ls st h := by by_cases q : a ≠ 0; rw [if_pos q]; exact xs_ofJ _ _ _ _ (ex_if_t (c := .ne) (b := 0) q); rw [if_neg q]; exact xs_of _ _ _ (ex_if_f (c := .ne) (b := 0) q)
theorem x_cmp_lt {a b t : Int} : ex_xs rt J C (.if_icmp .lt t :: is) ls (vI b :: vI a :: st) h = if a < b then J t.toNat ls st h else ex_xs rt J C is ls st h := by by_cases q : a < b; rw [if_pos q]; exact xs_ofJ _ _ _ _ (ex_if_t (c := .lt) q); rw [if_neg q]; exact xs_of _ _ _ (ex_if_f (c := .lt) q)
theorem x_if_lt {a t : Int} : ex_xs rt J C (.ifCond .lt t :: is) ls (vI a :: st) h = if a < 0 then J t.toNat ls st h else ex_xs rt J C is ls st h := by by_cases q : a < 0; rw [if_pos q]; exact xs_ofJ _ _ _ _ (ex_if_t (c := .lt) (b := 0) q); rw [if_neg q]; exact xs_of _ _ _ (ex_if_f (c := .lt) (b := 0) q)
theorem x_cmp_ge {a b t : Int} : ex_xs rt J C (.if_icmp .ge t :: is) ls (vI b :: vI a :: st) h = if b ≤ a then J t.toNat ls st h else ex_xs rt J C is ls st h := by by_cases q : b ≤ a; rw [if_pos q]; exact xs_ofJ _ _ _ _ (ex_if_t (c := .ge) q); rw [if_neg q]; exact xs_of _ _ _ (ex_if_f (c := .ge) q)
theorem x_if_ge {a t : Int} : ex_xs rt J C (.ifCond .ge t :: is) ls (vI a :: st) h = if 0 ≤ a then J t.toNat ls st h else ex_xs rt J C is ls st h := by by_cases q : 0 ≤ a; rw [if_pos q]; exact xs_ofJ _ _ _ _ (ex_if_t (c := .ge) (b := 0) q); rw [if_neg q]; exact xs_of _ _ _ (ex_if_f (c := .ge) (b := 0) q)
theorem x_cmp_gt {a b t : Int} : ex_xs rt J C (.if_icmp .gt t :: is) ls (vI b :: vI a :: st) h = if b < a then J t.toNat ls st h else ex_xs rt J C is ls st h := by by_cases q : b < a; rw [if_pos q]; exact xs_ofJ _ _ _ _ (ex_if_t (c := .gt) q); rw [if_neg q]; exact xs_of _ _ _ (ex_if_f (c := .gt) q)
theorem x_if_gt {a t : Int} : ex_xs rt J C (.ifCond .gt t :: is) ls (vI a :: st) h = if 0 < a then J t.toNat ls st h else ex_xs rt J C is ls st h := by by_cases q : 0 < a; rw [if_pos q]; exact xs_ofJ _ _ _ _ (ex_if_t (c := .gt) (b := 0) q); rw [if_neg q]; exact xs_of _ _ _ (ex_if_f (c := .gt) (b := 0) q)
theorem x_cmp_le {a b t : Int} : ex_xs rt J C (.if_icmp .le t :: is) ls (vI b :: vI a :: st) h = if a ≤ b then J t.toNat ls st h else ex_xs rt J C is ls st h := by by_cases q : a ≤ b; rw [if_pos q]; exact xs_ofJ _ _ _ _ (ex_if_t (c := .le) q); rw [if_neg q]; exact xs_of _ _ _ (ex_if_f (c := .le) q)
theorem x_if_le {a t : Int} : ex_xs rt J C (.ifCond .le t :: is) ls (vI a :: st) h = if a ≤ 0 then J t.toNat ls st h else ex_xs rt J C is ls st h := by by_cases q : a ≤ 0; rw [if_pos q]; exact xs_ofJ _ _ _ _ (ex_if_t (c := .le) (b := 0) q); rw [if_neg q]; exact xs_of _ _ _ (ex_if_f (c := .le) (b := 0) q)
theorem y_cmp_eq_t {a b t : Int} (q : a = b) : ex_xs rt J C (.if_icmp .eq t :: is) ls (vI b :: vI a :: st) h = J t.toNat ls st h := xs_ofJ _ _ _ _ (ex_if_t (c := .eq) q)
theorem y_cmp_eq_f {a b t : Int} (q : a ≠ b) : ex_xs rt J C (.if_icmp .eq t :: is) ls (vI b :: vI a :: st) h = ex_xs rt J C is ls st h := xs_of _ _ _ (ex_if_f (c := .eq) (show ¬ (a = b) from q))
theorem y_if_eq_t {a t : Int} (q : a = 0) : ex_xs rt J C (.ifCond .eq t :: is) ls (vI a :: st) h = J t.toNat ls st h := xs_ofJ _ _ _ _ (ex_if_t (c := .eq) (b := 0) q)
theorem y_if_eq_f {a t : Int} (q : a ≠ 0) : ex_xs rt J C (.ifCond .eq t :: is) ls (vI a :: st) h = ex_xs rt J C is ls st h := xs_of _ _ _ (ex_if_f (c := .eq) (b := 0) (show ¬ (a = 0) from q))
theorem y_cmp_ne_t {a b t : Int} (q : a ≠ b) : ex_xs rt J C (.if_icmp .ne t :: is) ls (vI b :: vI a :: st) h = J t.toNat ls st h := xs_ofJ _ _ _ _ (ex_if_t (c := .ne) q)
theorem y_cmp_ne_f {a b t : Int} (q : a = b) : ex_xs rt J C (.if_icmp .ne t :: is) ls (vI b :: vI a :: st) h = ex_xs rt J C is ls st h := xs_of _ _ _ (ex_if_f (c := .ne) (show ¬ (a ≠ b) from (fun h9 => h9 q)))
theorem y_if_ne_t {a t : Int} (q : a ≠ 0) : ex_xs rt J C (.ifCond .ne t :: is) ls (vI a :: st) h = J t.toNat ls st h := xs_ofJ _ _ _ _ (ex_if_t (c := .ne) (b := 0) q)
theorem y_if_ne_f {a t : Int} (q : a = 0) : ex_xs rt J C (.ifCond .ne t :: is) ls (vI a :: st) h = ex_xs rt J C is ls st h := xs_of _ _ _ (ex_if_f (c := .ne) (b := 0) (show ¬ (a ≠ 0) from (fun h9 => h9 q)))
theorem y_cmp_lt_t {a b t : Int} (q : a < b) : ex_xs rt J C (.if_icmp .lt t :: is) ls (vI b :: vI a :: st) h = J t.toNat ls st h := xs_ofJ _ _ _ _ (ex_if_t (c := .lt) q)
theorem y_cmp_lt_f {a b t : Int} (q : b ≤ a) : ex_xs rt J C (.if_icmp .lt t :: is) ls (vI b :: vI a :: st) h = ex_xs rt J C is ls st h := xs_of _ _ _ (ex_if_f (c := .lt) (show ¬ (a < b) from (by omega)))
theorem y_if_lt_t {a t : Int} (q : a < 0) : ex_xs rt J C (.ifCond .lt t :: is) ls (vI a :: st) h = J t.toNat ls st h := xs_ofJ _ _ _ _ (ex_if_t (c := .lt) (b := 0) q)
theorem y_if_lt_f {a t : Int} (q : 0 ≤ a) : ex_xs rt J C (.ifCond .lt t :: is) ls (vI a :: st) h = ex_xs rt J C is ls st h := xs_of _ _ _ (ex_if_f (c := .lt) (b := 0) (show ¬ (a < 0) from (by omega)))
theorem y_cmp_ge_t {a b t : Int} (q : b ≤ a) : ex_xs rt J C (.if_icmp .ge t :: is) ls (vI b :: vI a :: st) h = J t.toNat ls st h := xs_ofJ _ _ _ _ (ex_if_t (c := .ge) q)
theorem y_cmp_ge_f {a b t : Int} (q : a < b) : ex_xs rt J C (.if_icmp .ge t :: is) ls (vI b :: vI a :: st) h = ex_xs rt J C is ls st h := xs_of _ _ _ (ex_if_f (c := .ge) (show ¬ (b ≤ a) from (by omega)))
theorem y_if_ge_t {a t : Int} (q : 0 ≤ a) : ex_xs rt J C (.ifCond .ge t :: is) ls (vI a :: st) h = J t.toNat ls st h := xs_ofJ _ _ _ _ (ex_if_t (c := .ge) (b := 0) q)
theorem y_if_ge_f {a t : Int} (q : a < 0) : ex_xs rt J C (.ifCond .ge t :: is) ls (vI a :: st) h = ex_xs rt J C is ls st h := xs_of _ _ _ (ex_if_f (c := .ge) (b := 0) (show ¬ (0 ≤ a) from (by omega)))
theorem y_cmp_gt_t {a b t : Int} (q : b < a) : ex_xs rt J C (.if_icmp .gt t :: is) ls (vI b :: vI a :: st) h = J t.toNat ls st h := xs_ofJ _ _ _ _ (ex_if_t (c := .gt) q)
theorem y_cmp_gt_f {a b t : Int} (q : a ≤ b) : ex_xs rt J C (.if_icmp .gt t :: is) ls (vI b :: vI a :: st) h = ex_xs rt J C is ls st h := xs_of _ _ _ (ex_if_f (c := .gt) (show ¬ (b < a) from (by omega)))
theorem y_if_gt_t {a t : Int} (q : 0 < a) : ex_xs rt J C (.ifCond .gt t :: is) ls (vI a :: st) h = J t.toNat ls st h := xs_ofJ _ _ _ _ (ex_if_t (c := .gt) (b := 0) q)
theorem y_if_gt_f {a t : Int} (q : a ≤ 0) : ex_xs rt J C (.ifCond .gt t :: is) ls (vI a :: st) h = ex_xs rt J C is ls st h := xs_of _ _ _ (ex_if_f (c := .gt) (b := 0) (show ¬ (0 < a) from (by omega)))
theorem y_cmp_le_t {a b t : Int} (q : a ≤ b) : ex_xs rt J C (.if_icmp .le t :: is) ls (vI b :: vI a :: st) h = J t.toNat ls st h := xs_ofJ _ _ _ _ (ex_if_t (c := .le) q)
theorem y_cmp_le_f {a b t : Int} (q : b < a) : ex_xs rt J C (.if_icmp .le t :: is) ls (vI b :: vI a :: st) h = ex_xs rt J C is ls st h := xs_of _ _ _ (ex_if_f (c := .le) (show ¬ (a ≤ b) from (by omega)))
theorem y_if_le_t {a t : Int} (q : a ≤ 0) : ex_xs rt J C (.ifCond .le t :: is) ls (vI a :: st) h = J t.toNat ls st h := xs_ofJ _ _ _ _ (ex_if_t (c := .le) (b := 0) q)
theorem y_if_le_f {a t : Int} (q : 0 < a) : ex_xs rt J C (.ifCond .le t :: is) ls (vI a :: st) h = ex_xs rt J C is ls st h := xs_of _ _ _ (ex_if_f (c := .le) (b := 0) (show ¬ (a ≤ 0) from (by omega)))
theorem x_ret1 {z : Int} : ex_xs 1 J C (.ireturn :: is) ls [vI z] h = some ([vI z], h) := rfl
theorem x_ret2 {z : Int} (hz : z = 0 ∨ z = 1) : ex_xs 2 J C (.ireturn :: is) ls [vI z] h = some ([vI z], h) := by
  have e : ex_st 2 ls [vI z] h .ireturn = oR [vI z] h := by dsimp only [ex_st]; rw [if_pos (Or.inr ⟨rfl, hz⟩)]
  rw [ex_xs, e]
theorem x_ret0 : ex_xs 0 J C (.return_ :: is) ls [] h = some ([], h) := rfl
theorem x_tab {df lo hi : Int} {of : Array Int} {a : Int} : ex_xs rt J C (.tableswitch df lo hi of :: is) ls (vI a :: st) h = if a < lo ∨ hi < a then J df.toNat ls st h else (match of[(a - lo).toNat]? with
    | some t => J t.toNat ls st h
    | none => none) := by
  by_cases q : a < lo ∨ hi < a
  · rw [if_pos q]; exact xs_ofJ _ _ _ _ (by dsimp only [ex_st]; rw [if_pos q])
  · rw [if_neg q]
    cases hof : of[(a - lo).toNat]? with
    | none =>
      have e : ex_st rt ls (vI a :: st) h (.tableswitch df lo hi of) = none := by dsimp only [ex_st]; rw [if_neg q, hof]
      rw [ex_xs, e]
    | some t => exact xs_ofJ _ _ _ _ (by dsimp only [ex_st]; rw [if_neg q, hof])
theorem x_look {df : Int} {ps : Array (Int × Int)} {a : Int} : ex_xs rt J C (.lookupswitch df ps :: is) ls (vI a :: st) h = J (Op.lookupswitch.offset ps.toList df a).toNat ls st h := rfl
/-- cells: ints of an array, fields -/
def ex_ok (st : List ex_V) : Bool := decide (st.length ≤ 8) && st.all ex_sh
theorem x_ald {Sh : List ex_C} {σ : ex_S} {a n : Nat} {i : Int} (hs : Sh[a]? = some (cA n)) (h0 : 0 ≤ i) (h1 : i < (n : Int)) : ex_xs rt J C (.iaload :: is) ls (vI i :: vR a :: st) (Sh, σ) = ex_xs rt J C is ls (vI (σ a i) :: st) (Sh, σ) := xs_of _ _ _ (by dsimp only [ex_st]; rw [hs]; dsimp only; rw [if_pos ⟨h0, h1⟩])
theorem x_ast {Sh : List ex_C} {σ : ex_S} {a n : Nat} {i z : Int} (hs : Sh[a]? = some (cA n)) (h4 : 4 ≤ a) (h0 : 0 ≤ i) (h1 : i < (n : Int)) : ex_xs rt J C (.iastore :: is) ls (vI z :: vI i :: vR a :: st) (Sh, σ) = ex_xs rt J C is ls st (Sh, ex_ar σ a (ex_u (σ a) i z)) := xs_of _ _ _ (by dsimp only [ex_st]; rw [hs]; dsimp only; rw [if_pos ⟨h4, h0, h1⟩])
theorem x_aln {Sh : List ex_C} {σ : ex_S} {a n : Nat} (hs : Sh[a]? = some (cA n)) : ex_xs rt J C (.arraylength :: is) ls (vR a :: st) (Sh, σ) = ex_xs rt J C is ls (vI (ex_wr n) :: st) (Sh, σ) := xs_of _ _ _ (by dsimp only [ex_st]; rw [hs])
theorem x_getI {Sh : List ex_C} {σ : ex_S} {a c q k : Nat} {f : List (Option (Option Nat))} (hs : Sh[a]? = some (cO c f)) (h4 : 4 ≤ a) (hc : c = q / 32) (hk : q % 32 = k) (hf : f[k]? = some none) : ex_xs rt J C (.getfield q :: is) ls (vR a :: st) (Sh, σ) = ex_xs rt J C is ls (vI (σ a (k : Int)) :: st) (Sh, σ) := by
  subst hk
  exact xs_of _ _ _ (by dsimp only [ex_st]; rw [hs]; dsimp only; rw [if_pos ⟨h4, hc⟩, hf])
theorem x_getR {Sh : List ex_C} {σ : ex_S} {a c q r : Nat} {f : List (Option (Option Nat))} (hs : Sh[a]? = some (cO c f)) (h4 : 4 ≤ a) (hc : c = q / 32) (hf : f[q % 32]? = some (some (some r))) : ex_xs rt J C (.getfield q :: is) ls (vR a :: st) (Sh, σ) = ex_xs rt J C is ls (vR r :: st) (Sh, σ) :=
  xs_of _ _ _ (by dsimp only [ex_st]; rw [hs]; dsimp only; rw [if_pos ⟨h4, hc⟩, hf])
theorem x_putI {Sh : List ex_C} {σ : ex_S} {a c q k : Nat} {z : Int} {f : List (Option (Option Nat))} (hs : Sh[a]? = some (cO c f)) (h4 : 4 ≤ a) (hc : c = q / 32) (hk : q % 32 = k) (hf : f[k]? = some none) : ex_xs rt J C (.putfield q :: is) ls (vI z :: vR a :: st) (Sh, σ) = ex_xs rt J C is ls st (Sh, ex_ar σ a (ex_u (σ a) (k : Int) z)) := by
  subst hk
  exact xs_of _ _ _ (by dsimp only [ex_st]; rw [hs]; dsimp only; rw [if_pos ⟨h4, hc⟩, hf])
theorem x_cpy {Sh : List ex_C} {σ : ex_S} {a b n0 n1 : Nat} {sp dp n : Int} (hs : Sh[a]? = some (cA n0)) (hs2 : Sh[b]? = some (cA n1)) (h4 : 4 ≤ a) (h5 : 4 ≤ b) (h0 : 0 ≤ sp) (h1 : 0 ≤ dp) (h2 : 0 ≤ n) (h6 : sp + n ≤ (n0 : Int)) (h7 : dp + n ≤ (n1 : Int)) (hok : ex_ok st = true) : ex_xs rt J C (.invokedynamic 0 :: is) ls (vI n :: vI dp :: vR b :: vI sp :: vR a :: st) (Sh, σ) = ex_xs rt J C is ls st (Sh, ex_ar σ b (ex_cpy (σ a) (σ b) sp dp n)) := by
  unfold ex_ok at hok
  rw [Bool.and_eq_true, decide_eq_true_eq] at hok
  exact xs_of _ _ _ (by dsimp only [ex_st]; rw [if_neg (by decide)]; rw [hs, hs2]; dsimp only; rw [if_pos ⟨h4, h5, h0, h1, h2, h6, h7, hok.1, hok.2⟩])
theorem x_call0 {m own n mL r : Nat} (hm : ex_mt[m]? = some (0, own, n, mL, r)) {as st0 vs : List ex_V} {h' : ex_H} (hn : as.length = n) (hsa : as.all ex_sh = true) (hok : ex_ok st0 = true) (hst : as.reverse ++ st0 = st) (hc : C m as h = some (vs, h')) : ex_xs rt J C (.invokestatic m :: is) ls st h = ex_xs rt J C is ls (vs ++ st0) h' := by
  unfold ex_ok at hok
  rw [Bool.and_eq_true, decide_eq_true_eq] at hok
  subst hst
  have hl : as.reverse.length = n := by rw [List.length_reverse]; exact hn
  have e : ex_st rt ls (as.reverse ++ st0) h (.invokestatic m) = oC m as st0 h := by
    show ex_ca 0 m (as.reverse ++ st0) h = _
    unfold ex_ca
    rw [hm]
    dsimp only
    rw [if_pos ⟨rfl, by rw [List.length_append, hl]; omega, by rw [List.length_append, hl]; omega, by rw [List.all_append, List.all_reverse, hsa, hok.2]; rfl⟩, if_pos rfl, List.take_left' hl, List.drop_left' hl, List.reverse_reverse]
  rw [ex_xs, e]
  dsimp only
  rw [hc]
theorem x_call1 {m own n mL r k : Nat} (hk : k = 1 ∨ k = 2) (hm : ex_mt[m]? = some (k, own, n, mL, r)) {Sh : List ex_C} {σ : ex_S} {a : Nat} {f : List (Option (Option Nat))} (hs : Sh[a]? = some (cO own f)) {i : Instr} (hi : (k = 1 ∧ i = .invokevirtual m) ∨ (k = 2 ∧ i = .invokespecial m)) {as st0 vs : List ex_V} {h' : ex_H} (hn : as.length + 1 = n) (hsa : as.all ex_sh = true) (hok : ex_ok st0 = true) (hst : as.reverse ++ vR a :: st0 = st) (hc : C m (vR a :: as) (Sh, σ) = some (vs, h')) : ex_xs rt J C (i :: is) ls st (Sh, σ) = ex_xs rt J C is ls (vs ++ st0) h' := by
  unfold ex_ok at hok
  rw [Bool.and_eq_true, decide_eq_true_eq] at hok
  subst hst
  have hl : (as.reverse ++ [vR a]).length = n := by rw [List.length_append, List.length_reverse]; exact hn
  have hq : as.reverse ++ vR a :: st0 = (as.reverse ++ [vR a]) ++ st0 := by rw [List.append_assoc]; rfl
  have e0 : ex_ca k m (as.reverse ++ vR a :: st0) (Sh, σ) = oC m (vR a :: as) st0 (Sh, σ) := by
    unfold ex_ca
    rw [hm]
    dsimp only
    have hrv : (as.reverse ++ [vR a]).reverse = vR a :: as := by rw [List.reverse_append, List.reverse_reverse]; rfl
    rw [hq, if_pos ⟨rfl, by rw [List.length_append, hl]; omega, by rw [List.length_append, hl]; omega, by rw [List.all_append, List.all_append, List.all_reverse, hsa, hok.2]; rfl⟩, if_neg (by omega), List.take_left' hl, List.drop_left' hl, hrv]
    dsimp only
    rw [hs]
    dsimp only
    rw [if_pos rfl]
  have e : ex_st rt ls (as.reverse ++ vR a :: st0) (Sh, σ) i = oC m (vR a :: as) st0 (Sh, σ) := by
    rcases hi with ⟨rfl, rfl⟩ | ⟨rfl, rfl⟩ <;> exact e0
  rw [ex_xs, e]
  dsimp only
  rw [hc]
end XR
theorem ex_cd_eq {d m : Nat} (hd : 0 < d) (as : List ex_V) (h : ex_H) : ex_cd d m as h = ex_ev (d - 1) m 0 (ex_fr m as) [] h := by
  obtain ⟨k, rfl⟩ : ∃ k, d = k + 1 := ⟨d - 1, by omega⟩
  rfl
theorem sh_1 (L : Nat) : (SH L)[1]? = some (cA 4) := rfl
theorem sh_2 (L : Nat) : (SH L)[2]? = some (cA 6) := rfl
theorem sh_3 (L : Nat) : (SH L)[3]? = some (cA 6) := rfl
theorem sh_4 (L : Nat) : (SH L)[4]? = some (cO 11 [some (some 5), some (some 28), some (some 29), some (some 33), some (some 47), some (some 51), some (some 54), some (some 57), some (some 60), none, none, none]) := rfl
theorem sh_5 (L : Nat) : (SH L)[5]? = some (cO 1 [some (some 6), some (some 18), some (some 21), some (some 25), some (some 26), some (some 27), none, none, none, none, none, none, none]) := rfl
theorem sh_6 (L : Nat) : (SH L)[6]? = some (cO 2 [none, none, some (some 7), some (some 8), some (some 9), some (some 10), some (some 11), some (some 12), some (some 13), some (some 14), some (some 15), some (some 16), some (some 17)]) := rfl
theorem sh_7 (L : Nat) : (SH L)[7]? = some (cA 5) := rfl
theorem sh_8 (L : Nat) : (SH L)[8]? = some (cA 5) := rfl
theorem sh_9 (L : Nat) : (SH L)[9]? = some (cA 5) := rfl
theorem sh_10 (L : Nat) : (SH L)[10]? = some (cA 5) := rfl
theorem sh_11 (L : Nat) : (SH L)[11]? = some (cA 5) := rfl
theorem sh_12 (L : Nat) : (SH L)[12]? = some (cA 5) := rfl
theorem sh_13 (L : Nat) : (SH L)[13]? = some (cA 5) := rfl
theorem sh_14 (L : Nat) : (SH L)[14]? = some (cA 5) := rfl
theorem sh_15 (L : Nat) : (SH L)[15]? = some (cA 40) := rfl
theorem sh_16 (L : Nat) : (SH L)[16]? = some (cA 48) := rfl
theorem sh_17 (L : Nat) : (SH L)[17]? = some (cA 8) := rfl
theorem sh_18 (L : Nat) : (SH L)[18]? = some (cO 4 [none, some (some 19), some (some 20)]) := rfl
theorem sh_19 (L : Nat) : (SH L)[19]? = some (cA 60) := rfl
theorem sh_20 (L : Nat) : (SH L)[20]? = some (cA 60) := rfl
theorem sh_21 (L : Nat) : (SH L)[21]? = some (cO 3 [none, some (some 22), some (some 23), some (some 24)]) := rfl
theorem sh_22 (L : Nat) : (SH L)[22]? = some (cA 30) := rfl
theorem sh_23 (L : Nat) : (SH L)[23]? = some (cA 30) := rfl
theorem sh_24 (L : Nat) : (SH L)[24]? = some (cA 30) := rfl
theorem sh_25 (L : Nat) : (SH L)[25]? = some (cA 25) := rfl
theorem sh_26 (L : Nat) : (SH L)[26]? = some (cA 16) := rfl
theorem sh_27 (L : Nat) : (SH L)[27]? = some (cA 7) := rfl
theorem sh_28 (L : Nat) : (SH L)[28]? = some (cQ [some 64, some 87, some 110, some 133, some 156, some 179, some 202, some 225, some 248, some 271, some 294, some 317, some 340, some 363, some 386, some 409]) := rfl
theorem sh_29 (L : Nat) : (SH L)[29]? = some (cO 9 [some (some 30), some (some 31), some (some 32)]) := rfl
theorem sh_30 (L : Nat) : (SH L)[30]? = some (cA 4) := rfl
theorem sh_31 (L : Nat) : (SH L)[31]? = some (cA 4) := rfl
theorem sh_32 (L : Nat) : (SH L)[32]? = some (cA 80) := rfl
theorem sh_33 (L : Nat) : (SH L)[33]? = some (cO 10 [some (some 34), some (some 35), none]) := rfl
theorem sh_34 (L : Nat) : (SH L)[34]? = some (cA 3) := rfl
theorem sh_35 (L : Nat) : (SH L)[35]? = some (cO 2 [none, none, some (some 36), some (some 37), some (some 38), some (some 39), some (some 40), some (some 41), some (some 42), some (some 43), some (some 44), some (some 45), some (some 46)]) := rfl
theorem sh_36 (L : Nat) : (SH L)[36]? = some (cA 5) := rfl
theorem sh_37 (L : Nat) : (SH L)[37]? = some (cA 5) := rfl
theorem sh_38 (L : Nat) : (SH L)[38]? = some (cA 5) := rfl
theorem sh_39 (L : Nat) : (SH L)[39]? = some (cA 5) := rfl
theorem sh_40 (L : Nat) : (SH L)[40]? = some (cA 5) := rfl
theorem sh_41 (L : Nat) : (SH L)[41]? = some (cA 5) := rfl
theorem sh_42 (L : Nat) : (SH L)[42]? = some (cA 5) := rfl
theorem sh_43 (L : Nat) : (SH L)[43]? = some (cA 5) := rfl
theorem sh_44 (L : Nat) : (SH L)[44]? = some (cA 40) := rfl
theorem sh_45 (L : Nat) : (SH L)[45]? = some (cA 48) := rfl
theorem sh_46 (L : Nat) : (SH L)[46]? = some (cA 8) := rfl
theorem sh_47 (L : Nat) : (SH L)[47]? = some (cO 5 [some (some 48), some (some 49), some (some 50), none]) := rfl
theorem sh_48 (L : Nat) : (SH L)[48]? = some (cA 7) := rfl
theorem sh_49 (L : Nat) : (SH L)[49]? = some (cA 7) := rfl
theorem sh_50 (L : Nat) : (SH L)[50]? = some (cA 5) := rfl
theorem sh_51 (L : Nat) : (SH L)[51]? = some (cO 0 [some (some 52), some (some 53)]) := rfl
theorem sh_52 (L : Nat) : (SH L)[52]? = some (cA 24) := rfl
theorem sh_53 (L : Nat) : (SH L)[53]? = some (cA 8) := rfl
theorem sh_54 (L : Nat) : (SH L)[54]? = some (cO 6 [some (some 55), some (some 56), none]) := rfl
theorem sh_55 (L : Nat) : (SH L)[55]? = some (cA 5) := rfl
theorem sh_56 (L : Nat) : (SH L)[56]? = some (cA 5) := rfl
theorem sh_57 (L : Nat) : (SH L)[57]? = some (cO 8 [some (some 58), some (some 59)]) := rfl
theorem sh_58 (L : Nat) : (SH L)[58]? = some (cA 5) := rfl
theorem sh_59 (L : Nat) : (SH L)[59]? = some (cA 7) := rfl
theorem sh_60 (L : Nat) : (SH L)[60]? = some (cO 7 [some (some 61), none, some (some 62), some (some 63), none]) := rfl
set_option maxRecDepth 20000 in
theorem sh_61 (L : Nat) : (SH L)[61]? = some (cA 8) := rfl
set_option maxRecDepth 20000 in
theorem sh_62 (L : Nat) : (SH L)[62]? = some (cA 8) := rfl
set_option maxRecDepth 20000 in
theorem sh_63 (L : Nat) : (SH L)[63]? = some (cA 5) := rfl
set_option maxRecDepth 20000 in
theorem sh_432 (L : Nat) : (SH L)[432]? = some (cO 12 [some (some 433), some (some 434), none, none, some (some 435), some (some 436), some (some 437), some (some 438), some (some 439), some (some 440), some (some 441), none, some (some 442), some (some 443), some (some 444), none, none, some (some 445), some (some 446), some (some 447), some (some 448)]) := rfl
set_option maxRecDepth 20000 in
theorem sh_433 (L : Nat) : (SH L)[433]? = some (cA 277) := rfl
set_option maxRecDepth 20000 in
theorem sh_434 (L : Nat) : (SH L)[434]? = some (cA 4432) := rfl
set_option maxRecDepth 20000 in
theorem sh_435 (L : Nat) : (SH L)[435]? = some (cA 4) := rfl
set_option maxRecDepth 20000 in
theorem sh_436 (L : Nat) : (SH L)[436]? = some (cA 4) := rfl
set_option maxRecDepth 20000 in
theorem sh_437 (L : Nat) : (SH L)[437]? = some (cA 80) := rfl
set_option maxRecDepth 20000 in
theorem sh_438 (L : Nat) : (SH L)[438]? = some (cA 200) := rfl
set_option maxRecDepth 20000 in
theorem sh_439 (L : Nat) : (SH L)[439]? = some (cA 3) := rfl
set_option maxRecDepth 20000 in
theorem sh_440 (L : Nat) : (SH L)[440]? = some (cA 7) := rfl
set_option maxRecDepth 20000 in
theorem sh_441 (L : Nat) : (SH L)[441]? = some (cA 7) := rfl
set_option maxRecDepth 20000 in
theorem sh_442 (L : Nat) : (SH L)[442]? = some (cA 8) := rfl
set_option maxRecDepth 20000 in
theorem sh_443 (L : Nat) : (SH L)[443]? = some (cA 5) := rfl
set_option maxRecDepth 20000 in
theorem sh_444 (L : Nat) : (SH L)[444]? = some (cA 5) := rfl
set_option maxRecDepth 20000 in
theorem sh_445 (L : Nat) : (SH L)[445]? = some (cA 8) := rfl
set_option maxRecDepth 20000 in
theorem sh_446 (L : Nat) : (SH L)[446]? = some (cA 8) := rfl
set_option maxRecDepth 20000 in
theorem sh_447 (L : Nat) : (SH L)[447]? = some (cA 5) := rfl
set_option maxRecDepth 20000 in
theorem sh_448 (L : Nat) : (SH L)[448]? = some (cA 20) := rfl
