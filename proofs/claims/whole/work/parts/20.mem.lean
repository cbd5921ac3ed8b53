/-! the memory behind both constructors, and its shape, which never changes again: class of a cell, what a reference field holds, how long an array is; the ints are a function of place and slot -/
def sf_M0_0 : sf_M := [.inl (11, [.inr (.inl (some 1)), .inr (.inl (some 13)), .inr (.inl (some 22)), .inr (.inl (some 29)), .inr (.inl (some 36)), .inr (.inl (some 256)), .inr (.inl (some 279)), .inr (.inl (some 281)), .inr (.inl (some 283)), .inr (.inl (some 292)), .inr (.inl (some 297)), .inr (.inl (some 343)), .inr (.inl (some 388)), .inl 0]), .inl (10, [.inr (.inl (some 2)), .inr (.inl (some 4)), .inl 0, .inl (-1), .inl 0, .inl 0, .inl 0, .inl 0]), .inl (7, [.inr (.inl (some 3))]), .inr (.inl (0, (List.replicate 200 0))), .inl (2, [.inr (.inl (some 5)), .inr (.inl (some 7)), .inr (.inl (some 9)), .inr (.inl (some 11)), .inl 0, .inl 0, .inl 5, .inl 20]), .inl (7, [.inr (.inl (some 6))]), .inr (.inl (0, (List.replicate 5 0))), .inl (7, [.inr (.inl (some 8))]), .inr (.inl (0, (List.replicate 5 0))), .inl (7, [.inr (.inl (some 10))]), .inr (.inl (0, (List.replicate 6 1))), .inl (7, [.inr (.inl (some 12))]), .inr (.inl (0, (List.replicate 6 4))), .inl (2, [.inr (.inl (some 14)), .inr (.inl (some 16)), .inr (.inl (some 18)), .inr (.inl (some 20)), .inl 0, .inl 0, .inl 5, .inl 20]), .inl (7, [.inr (.inl (some 15))]), .inr (.inl (0, (List.replicate 5 0))), .inl (7, [.inr (.inl (some 17))]), .inr (.inl (0, (List.replicate 5 0))), .inl (7, [.inr (.inl (some 19))]), .inr (.inl (0, (List.replicate 6 1))), .inl (7, [.inr (.inl (some 21))]), .inr (.inl (0, (List.replicate 6 4))), .inl (9, [.inr (.inl (some 23)), .inr (.inl (some 25)), .inr (.inl (some 27)), .inl (-1), .inl 20, .inl 0]), .inl (7, [.inr (.inl (some 24))]), .inr (.inl (0, (List.replicate 5 0))), .inl (7, [.inr (.inl (some 26))]), .inr (.inl (0, (List.replicate 5 (-1)))), .inl (7, [.inr (.inl (some 28))]), .inr (.inl (0, (List.replicate 6 4))), .inl (9, [.inr (.inl (some 30)), .inr (.inl (some 32)), .inr (.inl (some 34)), .inl (-1), .inl 0, .inl 0]), .inl (7, [.inr (.inl (some 31))]), .inr (.inl (0, (List.replicate 5 0))), .inl (7, [.inr (.inl (some 33))]), .inr (.inl (0, (List.replicate 5 0))), .inl (7, [.inr (.inl (some 35))]), .inr (.inl (0, (List.replicate 6 0))), .inl (4, [.inr (.inl (some 37)), .inl 0, .inl 0]), .inl (8, [.inr (.inl (some 45)), .inr (.inl (some 38))]), .inl (9, [.inr (.inl (some 39)), .inr (.inl (some 41)), .inr (.inl (some 43)), .inl (-1), .inl 0, .inl 0]), .inl (7, [.inr (.inl (some 40))])]
def sf_M0_1 : sf_M := [.inr (.inl (0, (List.replicate 5 0))), .inl (7, [.inr (.inl (some 42))]), .inr (.inl (0, (List.replicate 5 0))), .inl (7, [.inr (.inl (some 44))]), .inr (.inl (0, (List.replicate 6 0))), .inr (.inr [some 46, some 53, some 60, some 67, some 74, some 81, some 88, some 95, some 102, some 109, some 116, some 123, some 130, some 137, some 144, some 151, some 158, some 165, some 172, some 179, some 186, some 193, some 200, some 207, some 214, some 221, some 228, some 235, some 242, some 249]), .inl (9, [.inr (.inl (some 47)), .inr (.inl (some 49)), .inr (.inl (some 51)), .inl (-1), .inl 0, .inl 0]), .inl (7, [.inr (.inl (some 48))]), .inr (.inl (0, (List.replicate 5 0))), .inl (7, [.inr (.inl (some 50))]), .inr (.inl (0, (List.replicate 5 0))), .inl (7, [.inr (.inl (some 52))]), .inr (.inl (0, (List.replicate 6 0))), .inl (9, [.inr (.inl (some 54)), .inr (.inl (some 56)), .inr (.inl (some 58)), .inl (-1), .inl 0, .inl 0]), .inl (7, [.inr (.inl (some 55))]), .inr (.inl (0, (List.replicate 5 0))), .inl (7, [.inr (.inl (some 57))]), .inr (.inl (0, (List.replicate 5 0))), .inl (7, [.inr (.inl (some 59))]), .inr (.inl (0, (List.replicate 6 0))), .inl (9, [.inr (.inl (some 61)), .inr (.inl (some 63)), .inr (.inl (some 65)), .inl (-1), .inl 0, .inl 0]), .inl (7, [.inr (.inl (some 62))]), .inr (.inl (0, (List.replicate 5 0))), .inl (7, [.inr (.inl (some 64))]), .inr (.inl (0, (List.replicate 5 0))), .inl (7, [.inr (.inl (some 66))]), .inr (.inl (0, (List.replicate 6 0))), .inl (9, [.inr (.inl (some 68)), .inr (.inl (some 70)), .inr (.inl (some 72)), .inl (-1), .inl 0, .inl 0]), .inl (7, [.inr (.inl (some 69))]), .inr (.inl (0, (List.replicate 5 0))), .inl (7, [.inr (.inl (some 71))]), .inr (.inl (0, (List.replicate 5 0))), .inl (7, [.inr (.inl (some 73))]), .inr (.inl (0, (List.replicate 6 0))), .inl (9, [.inr (.inl (some 75)), .inr (.inl (some 77)), .inr (.inl (some 79)), .inl (-1), .inl 0, .inl 0]), .inl (7, [.inr (.inl (some 76))]), .inr (.inl (0, (List.replicate 5 0))), .inl (7, [.inr (.inl (some 78))]), .inr (.inl (0, (List.replicate 5 0))), .inl (7, [.inr (.inl (some 80))])]
def sf_M0_2 : sf_M := [.inr (.inl (0, (List.replicate 6 0))), .inl (9, [.inr (.inl (some 82)), .inr (.inl (some 84)), .inr (.inl (some 86)), .inl (-1), .inl 0, .inl 0]), .inl (7, [.inr (.inl (some 83))]), .inr (.inl (0, (List.replicate 5 0))), .inl (7, [.inr (.inl (some 85))]), .inr (.inl (0, (List.replicate 5 0))), .inl (7, [.inr (.inl (some 87))]), .inr (.inl (0, (List.replicate 6 0))), .inl (9, [.inr (.inl (some 89)), .inr (.inl (some 91)), .inr (.inl (some 93)), .inl (-1), .inl 0, .inl 0]), .inl (7, [.inr (.inl (some 90))]), .inr (.inl (0, (List.replicate 5 0))), .inl (7, [.inr (.inl (some 92))]), .inr (.inl (0, (List.replicate 5 0))), .inl (7, [.inr (.inl (some 94))]), .inr (.inl (0, (List.replicate 6 0))), .inl (9, [.inr (.inl (some 96)), .inr (.inl (some 98)), .inr (.inl (some 100)), .inl (-1), .inl 0, .inl 0]), .inl (7, [.inr (.inl (some 97))]), .inr (.inl (0, (List.replicate 5 0))), .inl (7, [.inr (.inl (some 99))]), .inr (.inl (0, (List.replicate 5 0))), .inl (7, [.inr (.inl (some 101))]), .inr (.inl (0, (List.replicate 6 0))), .inl (9, [.inr (.inl (some 103)), .inr (.inl (some 105)), .inr (.inl (some 107)), .inl (-1), .inl 0, .inl 0]), .inl (7, [.inr (.inl (some 104))]), .inr (.inl (0, (List.replicate 5 0))), .inl (7, [.inr (.inl (some 106))]), .inr (.inl (0, (List.replicate 5 0))), .inl (7, [.inr (.inl (some 108))]), .inr (.inl (0, (List.replicate 6 0))), .inl (9, [.inr (.inl (some 110)), .inr (.inl (some 112)), .inr (.inl (some 114)), .inl (-1), .inl 0, .inl 0]), .inl (7, [.inr (.inl (some 111))]), .inr (.inl (0, (List.replicate 5 0))), .inl (7, [.inr (.inl (some 113))]), .inr (.inl (0, (List.replicate 5 0))), .inl (7, [.inr (.inl (some 115))]), .inr (.inl (0, (List.replicate 6 0))), .inl (9, [.inr (.inl (some 117)), .inr (.inl (some 119)), .inr (.inl (some 121)), .inl (-1), .inl 0, .inl 0]), .inl (7, [.inr (.inl (some 118))]), .inr (.inl (0, (List.replicate 5 0))), .inl (7, [.inr (.inl (some 120))])]
def sf_M0_3 : sf_M := [.inr (.inl (0, (List.replicate 5 0))), .inl (7, [.inr (.inl (some 122))]), .inr (.inl (0, (List.replicate 6 0))), .inl (9, [.inr (.inl (some 124)), .inr (.inl (some 126)), .inr (.inl (some 128)), .inl (-1), .inl 0, .inl 0]), .inl (7, [.inr (.inl (some 125))]), .inr (.inl (0, (List.replicate 5 0))), .inl (7, [.inr (.inl (some 127))]), .inr (.inl (0, (List.replicate 5 0))), .inl (7, [.inr (.inl (some 129))]), .inr (.inl (0, (List.replicate 6 0))), .inl (9, [.inr (.inl (some 131)), .inr (.inl (some 133)), .inr (.inl (some 135)), .inl (-1), .inl 0, .inl 0]), .inl (7, [.inr (.inl (some 132))]), .inr (.inl (0, (List.replicate 5 0))), .inl (7, [.inr (.inl (some 134))]), .inr (.inl (0, (List.replicate 5 0))), .inl (7, [.inr (.inl (some 136))]), .inr (.inl (0, (List.replicate 6 0))), .inl (9, [.inr (.inl (some 138)), .inr (.inl (some 140)), .inr (.inl (some 142)), .inl (-1), .inl 0, .inl 0]), .inl (7, [.inr (.inl (some 139))]), .inr (.inl (0, (List.replicate 5 0))), .inl (7, [.inr (.inl (some 141))]), .inr (.inl (0, (List.replicate 5 0))), .inl (7, [.inr (.inl (some 143))]), .inr (.inl (0, (List.replicate 6 0))), .inl (9, [.inr (.inl (some 145)), .inr (.inl (some 147)), .inr (.inl (some 149)), .inl (-1), .inl 0, .inl 0]), .inl (7, [.inr (.inl (some 146))]), .inr (.inl (0, (List.replicate 5 0))), .inl (7, [.inr (.inl (some 148))]), .inr (.inl (0, (List.replicate 5 0))), .inl (7, [.inr (.inl (some 150))]), .inr (.inl (0, (List.replicate 6 0))), .inl (9, [.inr (.inl (some 152)), .inr (.inl (some 154)), .inr (.inl (some 156)), .inl (-1), .inl 0, .inl 0]), .inl (7, [.inr (.inl (some 153))]), .inr (.inl (0, (List.replicate 5 0))), .inl (7, [.inr (.inl (some 155))]), .inr (.inl (0, (List.replicate 5 0))), .inl (7, [.inr (.inl (some 157))]), .inr (.inl (0, (List.replicate 6 0))), .inl (9, [.inr (.inl (some 159)), .inr (.inl (some 161)), .inr (.inl (some 163)), .inl (-1), .inl 0, .inl 0]), .inl (7, [.inr (.inl (some 160))])]
def sf_M0_4 : sf_M := [.inr (.inl (0, (List.replicate 5 0))), .inl (7, [.inr (.inl (some 162))]), .inr (.inl (0, (List.replicate 5 0))), .inl (7, [.inr (.inl (some 164))]), .inr (.inl (0, (List.replicate 6 0))), .inl (9, [.inr (.inl (some 166)), .inr (.inl (some 168)), .inr (.inl (some 170)), .inl (-1), .inl 0, .inl 0]), .inl (7, [.inr (.inl (some 167))]), .inr (.inl (0, (List.replicate 5 0))), .inl (7, [.inr (.inl (some 169))]), .inr (.inl (0, (List.replicate 5 0))), .inl (7, [.inr (.inl (some 171))]), .inr (.inl (0, (List.replicate 6 0))), .inl (9, [.inr (.inl (some 173)), .inr (.inl (some 175)), .inr (.inl (some 177)), .inl (-1), .inl 0, .inl 0]), .inl (7, [.inr (.inl (some 174))]), .inr (.inl (0, (List.replicate 5 0))), .inl (7, [.inr (.inl (some 176))]), .inr (.inl (0, (List.replicate 5 0))), .inl (7, [.inr (.inl (some 178))]), .inr (.inl (0, (List.replicate 6 0))), .inl (9, [.inr (.inl (some 180)), .inr (.inl (some 182)), .inr (.inl (some 184)), .inl (-1), .inl 0, .inl 0]), .inl (7, [.inr (.inl (some 181))]), .inr (.inl (0, (List.replicate 5 0))), .inl (7, [.inr (.inl (some 183))]), .inr (.inl (0, (List.replicate 5 0))), .inl (7, [.inr (.inl (some 185))]), .inr (.inl (0, (List.replicate 6 0))), .inl (9, [.inr (.inl (some 187)), .inr (.inl (some 189)), .inr (.inl (some 191)), .inl (-1), .inl 0, .inl 0]), .inl (7, [.inr (.inl (some 188))]), .inr (.inl (0, (List.replicate 5 0))), .inl (7, [.inr (.inl (some 190))]), .inr (.inl (0, (List.replicate 5 0))), .inl (7, [.inr (.inl (some 192))]), .inr (.inl (0, (List.replicate 6 0))), .inl (9, [.inr (.inl (some 194)), .inr (.inl (some 196)), .inr (.inl (some 198)), .inl (-1), .inl 0, .inl 0]), .inl (7, [.inr (.inl (some 195))]), .inr (.inl (0, (List.replicate 5 0))), .inl (7, [.inr (.inl (some 197))]), .inr (.inl (0, (List.replicate 5 0))), .inl (7, [.inr (.inl (some 199))]), .inr (.inl (0, (List.replicate 6 0)))]
def sf_M0_5 : sf_M := [.inl (9, [.inr (.inl (some 201)), .inr (.inl (some 203)), .inr (.inl (some 205)), .inl (-1), .inl 0, .inl 0]), .inl (7, [.inr (.inl (some 202))]), .inr (.inl (0, (List.replicate 5 0))), .inl (7, [.inr (.inl (some 204))]), .inr (.inl (0, (List.replicate 5 0))), .inl (7, [.inr (.inl (some 206))]), .inr (.inl (0, (List.replicate 6 0))), .inl (9, [.inr (.inl (some 208)), .inr (.inl (some 210)), .inr (.inl (some 212)), .inl (-1), .inl 0, .inl 0]), .inl (7, [.inr (.inl (some 209))]), .inr (.inl (0, (List.replicate 5 0))), .inl (7, [.inr (.inl (some 211))]), .inr (.inl (0, (List.replicate 5 0))), .inl (7, [.inr (.inl (some 213))]), .inr (.inl (0, (List.replicate 6 0))), .inl (9, [.inr (.inl (some 215)), .inr (.inl (some 217)), .inr (.inl (some 219)), .inl (-1), .inl 0, .inl 0]), .inl (7, [.inr (.inl (some 216))]), .inr (.inl (0, (List.replicate 5 0))), .inl (7, [.inr (.inl (some 218))]), .inr (.inl (0, (List.replicate 5 0))), .inl (7, [.inr (.inl (some 220))]), .inr (.inl (0, (List.replicate 6 0))), .inl (9, [.inr (.inl (some 222)), .inr (.inl (some 224)), .inr (.inl (some 226)), .inl (-1), .inl 0, .inl 0]), .inl (7, [.inr (.inl (some 223))]), .inr (.inl (0, (List.replicate 5 0))), .inl (7, [.inr (.inl (some 225))]), .inr (.inl (0, (List.replicate 5 0))), .inl (7, [.inr (.inl (some 227))]), .inr (.inl (0, (List.replicate 6 0))), .inl (9, [.inr (.inl (some 229)), .inr (.inl (some 231)), .inr (.inl (some 233)), .inl (-1), .inl 0, .inl 0]), .inl (7, [.inr (.inl (some 230))]), .inr (.inl (0, (List.replicate 5 0))), .inl (7, [.inr (.inl (some 232))]), .inr (.inl (0, (List.replicate 5 0))), .inl (7, [.inr (.inl (some 234))]), .inr (.inl (0, (List.replicate 6 0))), .inl (9, [.inr (.inl (some 236)), .inr (.inl (some 238)), .inr (.inl (some 240)), .inl (-1), .inl 0, .inl 0]), .inl (7, [.inr (.inl (some 237))]), .inr (.inl (0, (List.replicate 5 0))), .inl (7, [.inr (.inl (some 239))]), .inr (.inl (0, (List.replicate 5 0)))]
def sf_M0_6 : sf_M := [.inl (7, [.inr (.inl (some 241))]), .inr (.inl (0, (List.replicate 6 0))), .inl (9, [.inr (.inl (some 243)), .inr (.inl (some 245)), .inr (.inl (some 247)), .inl (-1), .inl 0, .inl 0]), .inl (7, [.inr (.inl (some 244))]), .inr (.inl (0, (List.replicate 5 0))), .inl (7, [.inr (.inl (some 246))]), .inr (.inl (0, (List.replicate 5 0))), .inl (7, [.inr (.inl (some 248))]), .inr (.inl (0, (List.replicate 6 0))), .inl (9, [.inr (.inl (some 250)), .inr (.inl (some 252)), .inr (.inl (some 254)), .inl (-1), .inl 0, .inl 0]), .inl (7, [.inr (.inl (some 251))]), .inr (.inl (0, (List.replicate 5 0))), .inl (7, [.inr (.inl (some 253))]), .inr (.inl (0, (List.replicate 5 0))), .inl (7, [.inr (.inl (some 255))]), .inr (.inl (0, (List.replicate 6 0))), .inl (8, [.inr (.inl (some 264)), .inr (.inl (some 257))]), .inl (9, [.inr (.inl (some 258)), .inr (.inl (some 260)), .inr (.inl (some 262)), .inl (-1), .inl 0, .inl 0]), .inl (7, [.inr (.inl (some 259))]), .inr (.inl (0, (List.replicate 5 0))), .inl (7, [.inr (.inl (some 261))]), .inr (.inl (0, (List.replicate 5 0))), .inl (7, [.inr (.inl (some 263))]), .inr (.inl (0, (List.replicate 6 0))), .inr (.inr [some 265, some 272]), .inl (9, [.inr (.inl (some 266)), .inr (.inl (some 268)), .inr (.inl (some 270)), .inl (-1), .inl 0, .inl 0]), .inl (7, [.inr (.inl (some 267))]), .inr (.inl (0, (List.replicate 5 0))), .inl (7, [.inr (.inl (some 269))]), .inr (.inl (0, (List.replicate 5 0))), .inl (7, [.inr (.inl (some 271))]), .inr (.inl (0, (List.replicate 6 0))), .inl (9, [.inr (.inl (some 273)), .inr (.inl (some 275)), .inr (.inl (some 277)), .inl (-1), .inl 0, .inl 0]), .inl (7, [.inr (.inl (some 274))]), .inr (.inl (0, (List.replicate 5 0))), .inl (7, [.inr (.inl (some 276))]), .inr (.inl (0, (List.replicate 5 0))), .inl (7, [.inr (.inl (some 278))]), .inr (.inl (0, (List.replicate 6 0))), .inl (7, [.inr (.inl (some 280))])]
def sf_M0_7 : sf_M := [.inr (.inl (0, [0, 0])), .inl (7, [.inr (.inl (some 282))]), .inr (.inl (0, [0, 0])), .inl (3, [.inr (.inl (some 284)), .inr (.inl (some 286)), .inr (.inl (some 288)), .inr (.inl (some 290)), .inl 0]), .inl (7, [.inr (.inl (some 285))]), .inr (.inl (0, (List.replicate 12 0))), .inl (7, [.inr (.inl (some 287))]), .inr (.inl (0, (List.replicate 12 0))), .inl (7, [.inr (.inl (some 289))]), .inr (.inl (0, (List.replicate 12 0))), .inl (7, [.inr (.inl (some 291))]), .inr (.inl (0, (List.replicate 12 0))), .inl (0, [.inr (.inl (some 293)), .inr (.inl (some 295)), .inl 0]), .inl (7, [.inr (.inl (some 294))]), .inr (.inl (0, (List.replicate 20 0))), .inl (7, [.inr (.inl (some 296))]), .inr (.inl (0, (List.replicate 20 0))), .inl (5, [.inr (.inl (some 298)), .inr (.inl (some 335)), .inr (.inl (some 337)), .inr (.inl (some 339)), .inr (.inl (some 341)), .inl 0, .inl (-1), .inl 0, .inl 0, .inl 0, .inl 0]), .inl (8, [.inr (.inl (some 306)), .inr (.inl (some 299))]), .inl (9, [.inr (.inl (some 300)), .inr (.inl (some 302)), .inr (.inl (some 304)), .inl (-1), .inl 0, .inl 0]), .inl (7, [.inr (.inl (some 301))]), .inr (.inl (0, (List.replicate 5 0))), .inl (7, [.inr (.inl (some 303))]), .inr (.inl (0, (List.replicate 5 0))), .inl (7, [.inr (.inl (some 305))]), .inr (.inl (0, (List.replicate 6 0))), .inr (.inr [some 307, some 314, some 321, some 328]), .inl (9, [.inr (.inl (some 308)), .inr (.inl (some 310)), .inr (.inl (some 312)), .inl (-1), .inl 0, .inl 0]), .inl (7, [.inr (.inl (some 309))]), .inr (.inl (0, (List.replicate 5 0))), .inl (7, [.inr (.inl (some 311))]), .inr (.inl (0, (List.replicate 5 0))), .inl (7, [.inr (.inl (some 313))]), .inr (.inl (0, (List.replicate 6 0))), .inl (9, [.inr (.inl (some 315)), .inr (.inl (some 317)), .inr (.inl (some 319)), .inl (-1), .inl 0, .inl 0]), .inl (7, [.inr (.inl (some 316))]), .inr (.inl (0, (List.replicate 5 0))), .inl (7, [.inr (.inl (some 318))]), .inr (.inl (0, (List.replicate 5 0))), .inl (7, [.inr (.inl (some 320))])]
def sf_M0_8 : sf_M := [.inr (.inl (0, (List.replicate 6 0))), .inl (9, [.inr (.inl (some 322)), .inr (.inl (some 324)), .inr (.inl (some 326)), .inl (-1), .inl 0, .inl 0]), .inl (7, [.inr (.inl (some 323))]), .inr (.inl (0, (List.replicate 5 0))), .inl (7, [.inr (.inl (some 325))]), .inr (.inl (0, (List.replicate 5 0))), .inl (7, [.inr (.inl (some 327))]), .inr (.inl (0, (List.replicate 6 0))), .inl (9, [.inr (.inl (some 329)), .inr (.inl (some 331)), .inr (.inl (some 333)), .inl (-1), .inl 0, .inl 0]), .inl (7, [.inr (.inl (some 330))]), .inr (.inl (0, (List.replicate 5 0))), .inl (7, [.inr (.inl (some 332))]), .inr (.inl (0, (List.replicate 5 0))), .inl (7, [.inr (.inl (some 334))]), .inr (.inl (0, (List.replicate 6 0))), .inl (7, [.inr (.inl (some 336))]), .inr (.inl (0, [0, 0, 0])), .inl (7, [.inr (.inl (some 338))]), .inr (.inl (0, [0, 0, 0])), .inl (7, [.inr (.inl (some 340))]), .inr (.inl (0, (List.replicate 15 0))), .inl (7, [.inr (.inl (some 342))]), .inr (.inl (0, (List.replicate 15 0))), .inl (1, [.inr (.inl (some 344)), .inl (-1), .inl (-1), .inl 0, .inl 1, .inl 0]), .inl (8, [.inr (.inl (some 352)), .inr (.inl (some 345))]), .inl (9, [.inr (.inl (some 346)), .inr (.inl (some 348)), .inr (.inl (some 350)), .inl (-1), .inl 0, .inl 0]), .inl (7, [.inr (.inl (some 347))]), .inr (.inl (0, (List.replicate 5 0))), .inl (7, [.inr (.inl (some 349))]), .inr (.inl (0, (List.replicate 5 0))), .inl (7, [.inr (.inl (some 351))]), .inr (.inl (0, (List.replicate 6 0))), .inr (.inr [some 353, some 360, some 367, some 374, some 381]), .inl (9, [.inr (.inl (some 354)), .inr (.inl (some 356)), .inr (.inl (some 358)), .inl (-1), .inl 0, .inl 0]), .inl (7, [.inr (.inl (some 355))]), .inr (.inl (0, (List.replicate 5 0))), .inl (7, [.inr (.inl (some 357))]), .inr (.inl (0, (List.replicate 5 0))), .inl (7, [.inr (.inl (some 359))]), .inr (.inl (0, (List.replicate 6 0)))]
def sf_M0_9 : sf_M := [.inl (9, [.inr (.inl (some 361)), .inr (.inl (some 363)), .inr (.inl (some 365)), .inl (-1), .inl 0, .inl 0]), .inl (7, [.inr (.inl (some 362))]), .inr (.inl (0, (List.replicate 5 0))), .inl (7, [.inr (.inl (some 364))]), .inr (.inl (0, (List.replicate 5 0))), .inl (7, [.inr (.inl (some 366))]), .inr (.inl (0, (List.replicate 6 0))), .inl (9, [.inr (.inl (some 368)), .inr (.inl (some 370)), .inr (.inl (some 372)), .inl (-1), .inl 0, .inl 0]), .inl (7, [.inr (.inl (some 369))]), .inr (.inl (0, (List.replicate 5 0))), .inl (7, [.inr (.inl (some 371))]), .inr (.inl (0, (List.replicate 5 0))), .inl (7, [.inr (.inl (some 373))]), .inr (.inl (0, (List.replicate 6 0))), .inl (9, [.inr (.inl (some 375)), .inr (.inl (some 377)), .inr (.inl (some 379)), .inl (-1), .inl 0, .inl 0]), .inl (7, [.inr (.inl (some 376))]), .inr (.inl (0, (List.replicate 5 0))), .inl (7, [.inr (.inl (some 378))]), .inr (.inl (0, (List.replicate 5 0))), .inl (7, [.inr (.inl (some 380))]), .inr (.inl (0, (List.replicate 6 0))), .inl (9, [.inr (.inl (some 382)), .inr (.inl (some 384)), .inr (.inl (some 386)), .inl (-1), .inl 0, .inl 0]), .inl (7, [.inr (.inl (some 383))]), .inr (.inl (0, (List.replicate 5 0))), .inl (7, [.inr (.inl (some 385))]), .inr (.inl (0, (List.replicate 5 0))), .inl (7, [.inr (.inl (some 387))]), .inr (.inl (0, (List.replicate 6 0))), .inl (6, [.inr (.inl (some 389)), .inr (.inl (some 396)), .inr (.inl (some 398)), .inl 0, .inl 0, .inl (-1)]), .inl (9, [.inr (.inl (some 390)), .inr (.inl (some 392)), .inr (.inl (some 394)), .inl (-1), .inl 0, .inl 0]), .inl (7, [.inr (.inl (some 391))]), .inr (.inl (0, (List.replicate 5 0))), .inl (7, [.inr (.inl (some 393))]), .inr (.inl (0, (List.replicate 5 0))), .inl (7, [.inr (.inl (some 395))]), .inr (.inl (0, (List.replicate 6 0))), .inl (7, [.inr (.inl (some 397))]), .inr (.inl (0, (List.replicate 101 0))), .inl (7, [.inr (.inl (some 399))]), .inr (.inl (0, (List.replicate 2000 0)))]
def sf_M0_10 : sf_M := [.inl (2, [.inr (.inl (some 401)), .inr (.inl (some 403)), .inr (.inl (some 405)), .inr (.inl (some 407)), .inl 0, .inl 0, .inl 5, .inl 20]), .inl (7, [.inr (.inl (some 402))]), .inr (.inl (0, (List.replicate 5 0))), .inl (7, [.inr (.inl (some 404))]), .inr (.inl (0, (List.replicate 5 0))), .inl (7, [.inr (.inl (some 406))]), .inr (.inl (0, (List.replicate 6 1))), .inl (7, [.inr (.inl (some 408))]), .inr (.inl (0, (List.replicate 6 4))), .inl (12, [.inl 0, .inl 5, .inr (.inl (some 410)), .inr (.inl (some 411)), .inr (.inl (some 412)), .inr (.inl (some 413)), .inl 0, .inr (.inl (some 414)), .inr (.inl (some 415)), .inr (.inl (some 416)), .inl 0, .inr (.inl (some 417)), .inl 0, .inr (.inl (some 418)), .inl 0, .inl (-1), .inl 0, .inl 0, .inl 0, .inr (.inl (some 419)), .inr (.inl (some 420)), .inr (.inl (some 421)), .inr (.inl (some 422)), .inr (.inl (some 423)), .inl 0, .inl 0, .inl 0, .inl 0, .inr (.inl (some 424)), .inr (.inl (some 425)), .inr (.inl (some 426)), .inr (.inl (some 427)), .inl 0, .inl 0, .inr (.inl (some 428)), .inr (.inl (some 429)), .inr (.inl (some 430)), .inl 0, .inl 0, .inr (.inl (some 431))]), .inr (.inl (0, (List.replicate 5 0))), .inr (.inl (0, (List.replicate 6 1))), .inr (.inl (0, [(-1), 20, 0, 0, 0, 0, 0, 0, 0, 0, 0, 0, 0, 0, 4, 4, 4, 4, 4, 4])), .inr (.inl (0, (List.replicate 600 0))), .inr (.inl (0, (List.replicate 40 0))), .inr (.inl (1, [0, 0])), .inr (.inl (0, (List.replicate 48 0))), .inr (.inl (0, (List.replicate 40 0))), .inr (.inl (0, (List.replicate 200 0))), .inr (.inl (0, (List.replicate 5 0))), .inr (.inl (0, (List.replicate 5 0))), .inr (.inl (0, (List.replicate 6 0))), .inr (.inl (0, (List.replicate 6 0))), .inr (.inl (0, [0, 0, 0])), .inr (.inl (0, (List.replicate 20 0))), .inr (.inl (0, (List.replicate 100 0))), .inr (.inl (0, (List.replicate 5 0))), .inr (.inl (0, (List.replicate 4 0))), .inr (.inl (0, (List.replicate 5 0))), .inr (.inl (0, (List.replicate 606 0))), .inr (.inl (0, (List.replicate 500 0))), .inr (.inl (0, (List.replicate 5 0)))]
def sf_M0 : sf_M := sf_M0_0 ++ (sf_M0_1 ++ (sf_M0_2 ++ (sf_M0_3 ++ (sf_M0_4 ++ (sf_M0_5 ++ (sf_M0_6 ++ (sf_M0_7 ++ (sf_M0_8 ++ (sf_M0_9 ++ (sf_M0_10))))))))))
def sf_parl : List (Nat × Nat) := [(9999, 9999), (0, 0), (1, 0), (2, 0), (1, 1), (4, 0), (5, 0), (4, 1), (7, 0), (4, 2), (9, 0), (4, 3), (11, 0), (0, 1), (13, 0), (14, 0), (13, 1), (16, 0), (13, 2), (18, 0), (13, 3), (20, 0), (0, 2), (22, 0), (23, 0), (22, 1), (25, 0), (22, 2), (27, 0), (0, 3), (29, 0), (30, 0), (29, 1), (32, 0), (29, 2), (34, 0), (0, 4), (36, 0), (37, 1), (38, 0), (39, 0), (38, 1), (41, 0), (38, 2), (43, 0), (37, 0), (45, 0), (46, 0), (47, 0), (46, 1), (49, 0), (46, 2), (51, 0), (45, 1), (53, 0), (54, 0), (53, 1), (56, 0), (53, 2), (58, 0), (45, 2), (60, 0), (61, 0), (60, 1), (63, 0), (60, 2), (65, 0), (45, 3), (67, 0), (68, 0), (67, 1), (70, 0), (67, 2), (72, 0), (45, 4), (74, 0), (75, 0), (74, 1), (77, 0), (74, 2), (79, 0), (45, 5), (81, 0), (82, 0), (81, 1), (84, 0), (81, 2), (86, 0), (45, 6), (88, 0), (89, 0), (88, 1), (91, 0), (88, 2), (93, 0), (45, 7), (95, 0), (96, 0), (95, 1), (98, 0), (95, 2), (100, 0), (45, 8), (102, 0), (103, 0), (102, 1), (105, 0), (102, 2), (107, 0), (45, 9), (109, 0), (110, 0), (109, 1), (112, 0), (109, 2), (114, 0), (45, 10), (116, 0), (117, 0), (116, 1), (119, 0), (116, 2), (121, 0), (45, 11), (123, 0), (124, 0), (123, 1), (126, 0), (123, 2), (128, 0), (45, 12), (130, 0), (131, 0), (130, 1), (133, 0), (130, 2), (135, 0), (45, 13), (137, 0), (138, 0), (137, 1), (140, 0), (137, 2), (142, 0), (45, 14), (144, 0), (145, 0), (144, 1), (147, 0), (144, 2), (149, 0), (45, 15), (151, 0), (152, 0), (151, 1), (154, 0), (151, 2), (156, 0), (45, 16), (158, 0), (159, 0), (158, 1), (161, 0), (158, 2), (163, 0), (45, 17), (165, 0), (166, 0), (165, 1), (168, 0), (165, 2), (170, 0), (45, 18), (172, 0), (173, 0), (172, 1), (175, 0), (172, 2), (177, 0), (45, 19), (179, 0), (180, 0), (179, 1), (182, 0), (179, 2), (184, 0), (45, 20), (186, 0), (187, 0), (186, 1), (189, 0), (186, 2), (191, 0), (45, 21), (193, 0), (194, 0), (193, 1), (196, 0), (193, 2), (198, 0), (45, 22), (200, 0), (201, 0), (200, 1), (203, 0), (200, 2), (205, 0), (45, 23), (207, 0), (208, 0), (207, 1), (210, 0), (207, 2), (212, 0), (45, 24), (214, 0), (215, 0), (214, 1), (217, 0), (214, 2), (219, 0), (45, 25), (221, 0), (222, 0), (221, 1), (224, 0), (221, 2), (226, 0), (45, 26), (228, 0), (229, 0), (228, 1), (231, 0), (228, 2), (233, 0), (45, 27), (235, 0), (236, 0), (235, 1), (238, 0), (235, 2), (240, 0), (45, 28), (242, 0), (243, 0), (242, 1), (245, 0), (242, 2), (247, 0), (45, 29), (249, 0), (250, 0), (249, 1), (252, 0), (249, 2), (254, 0), (0, 5), (256, 1), (257, 0), (258, 0), (257, 1), (260, 0), (257, 2), (262, 0), (256, 0), (264, 0), (265, 0), (266, 0), (265, 1), (268, 0), (265, 2), (270, 0), (264, 1), (272, 0), (273, 0), (272, 1), (275, 0), (272, 2), (277, 0), (0, 6), (279, 0), (0, 7), (281, 0), (0, 8), (283, 0), (284, 0), (283, 1), (286, 0), (283, 2), (288, 0), (283, 3), (290, 0), (0, 9), (292, 0), (293, 0), (292, 1), (295, 0), (0, 10), (297, 0), (298, 1), (299, 0), (300, 0), (299, 1), (302, 0), (299, 2), (304, 0), (298, 0), (306, 0), (307, 0), (308, 0), (307, 1), (310, 0), (307, 2), (312, 0), (306, 1), (314, 0), (315, 0), (314, 1), (317, 0), (314, 2), (319, 0), (306, 2), (321, 0), (322, 0), (321, 1), (324, 0), (321, 2), (326, 0), (306, 3), (328, 0), (329, 0), (328, 1), (331, 0), (328, 2), (333, 0), (297, 1), (335, 0), (297, 2), (337, 0), (297, 3), (339, 0), (297, 4), (341, 0), (0, 11), (343, 0), (344, 1), (345, 0), (346, 0), (345, 1), (348, 0), (345, 2), (350, 0), (344, 0), (352, 0), (353, 0), (354, 0), (353, 1), (356, 0), (353, 2), (358, 0), (352, 1), (360, 0), (361, 0), (360, 1), (363, 0), (360, 2), (365, 0), (352, 2), (367, 0), (368, 0), (367, 1), (370, 0), (367, 2), (372, 0), (352, 3), (374, 0), (375, 0), (374, 1), (377, 0), (374, 2), (379, 0), (352, 4), (381, 0), (382, 0), (381, 1), (384, 0), (381, 2), (386, 0), (0, 12), (388, 0), (389, 0), (390, 0), (389, 1), (392, 0), (389, 2), (394, 0), (388, 1), (396, 0), (388, 2), (398, 0), (9999, 9999), (400, 0), (401, 0), (400, 1), (403, 0), (400, 2), (405, 0), (400, 3), (407, 0), (9999, 9999), (409, 2), (409, 3), (409, 4), (409, 5), (409, 7), (409, 8), (409, 9), (409, 11), (409, 13), (409, 19), (409, 20), (409, 21), (409, 22), (409, 23), (409, 28), (409, 29), (409, 30), (409, 31), (409, 34), (409, 35), (409, 36), (409, 39)]
def sf_kd (ci : Nat) : List Bool := match ci with
  | 0 => [true, true, false]
  | 1 => [true, false, false, false, false, false]
  | 2 => [true, true, true, true, false, false, false, false]
  | 3 => [true, true, true, true, false]
  | 4 => [true, false, false]
  | 5 => [true, true, true, true, true, false, false, false, false, false, false]
  | 6 => [true, true, true, false, false, false]
  | 7 => [true]
  | 8 => [true, true]
  | 9 => [true, true, true, false, false, false]
  | 10 => [true, true, false, false, false, false, false, false]
  | 11 => [true, true, true, true, true, true, true, true, true, true, true, true, true, false]
  | 12 => [false, false, true, true, true, true, false, true, true, true, false, true, false, true, false, false, false, false, false, true, true, true, true, true, false, false, false, false, true, true, true, true, false, false, true, true, true, false, false, true]
  | _ => []
def sf_cls (a : Nat) : Nat := match sf_M0[a]? with
  | some (.inl o) => o.1
  | some (.inr (.inl t)) => 100 + t.1
  | some (.inr (.inr _)) => 200
  | none => 999
def sf_len (a : Nat) : Nat := match sf_M0[a]? with
  | some (.inr (.inl t)) => t.2.length
  | some (.inr (.inr r)) => r.length
  | _ => 0
def sf_rf0 (a k : Nat) : Option Nat := match sf_M0[a]? with
  | some (.inl o) => match o.2[k]? with
    | some (.inr (.inl (some b))) => some b
    | _ => none
  | some (.inr (.inr r)) => match r[k]? with
    | some (some b) => some b
    | _ => none
  | _ => none
def sf_rf (a k : Nat) : Nat := match sf_rf0 a k with
  | some b => b
  | none => 1000 + 2 ^ a * (2 * k + 1)
def sf_iv (a k : Nat) : Int := match sf_M0[a]? with
  | some (.inl o) => match o.2[k]? with
    | some (.inl n) => n
    | _ => 0
  | some (.inr (.inl t)) => t.2.getD k 0
  | _ => 0
def sf_isR : sf_V → Bool
  | .inr (.inl (some _)) => true
  | _ => false
def sf_isI : sf_V → Bool
  | .inl _ => true
  | _ => false
def sf_fv (f : Nat → Int) (k : Nat) (v : sf_V) : sf_V := match v with
  | .inl _ => .inl (f k)
  | w => w
def sf_fill (f : Nat → Int) (c : sf_C) : sf_C := match c with
  | .inl o => .inl (o.1, o.2.mapIdx (sf_fv f))
  | .inr (.inl t) => .inr (.inl (t.1, t.2.mapIdx (fun k _ => f k)))
  | .inr (.inr r) => .inr (.inr r)
def sf_E (V : Nat → Nat → Int) : sf_M := sf_M0.mapIdx (fun a c => sf_fill (V a) c)
def sf_upd (V : Nat → Nat → Int) (a k : Nat) (v : Int) : Nat → Nat → Int := fun b j => if b = a ∧ j = k then v else V b j
def sf_chk (c : sf_C) : Bool := match c with
  | .inl o => (o.2.map sf_isR == sf_kd o.1) && o.2.all (fun v => sf_isR v || sf_isI v)
  | .inr (.inl t) => decide (t.1 ≤ 1) && decide (t.2.length ≤ 100000)
  | .inr (.inr r) => r.all (fun z => z.isSome) && decide (r.length ≤ 100000)
theorem sf_chk_all : sf_M0.all sf_chk = true := by decide +kernel
def sf_refs : List (Nat × Nat × Nat) := (sf_M0.zipIdx.map (fun q => match q.1 with
  | .inl o => (o.2.zipIdx.map (fun w => match w.1 with
    | .inr (.inl (some b)) => [(q.2, w.2, b)]
    | _ => [])).flatten
  | .inr (.inr r) => (r.zipIdx.map (fun w => match w.1 with
    | some b => [(q.2, w.2, b)]
    | none => [])).flatten
  | _ => [])).flatten
theorem sf_refs_ok : sf_refs.all (fun q => decide (q.1 < q.2.2) && (decide (q.2.2 < 432) && (decide (q.2.2 ≠ 409) && decide (sf_parl[q.2.2]? = some (q.1, q.2.1))))) = true := by decide +kernel
theorem sf_rf0_mem {a k b : Nat} (h : sf_rf0 a k = some b) : (a, k, b) ∈ sf_refs := by
  unfold sf_rf0 at h
  split at h
  · rename_i o ho
    split at h
    · rename_i z hz
      cases h
      refine List.mem_flatten.mpr ⟨_, List.mem_map.mpr ⟨(.inl o, a), List.mem_zipIdx_iff_getElem?.mpr ho, rfl⟩, ?_⟩
      exact List.mem_flatten.mpr ⟨_, List.mem_map.mpr ⟨(.inr (.inl (some b)), k), List.mem_zipIdx_iff_getElem?.mpr hz, rfl⟩, List.mem_singleton.mpr rfl⟩
    · cases h
  · rename_i r hr
    split at h
    · rename_i z hz
      cases h
      refine List.mem_flatten.mpr ⟨_, List.mem_map.mpr ⟨(.inr (.inr r), a), List.mem_zipIdx_iff_getElem?.mpr hr, rfl⟩, ?_⟩
      exact List.mem_flatten.mpr ⟨_, List.mem_map.mpr ⟨(some b, k), List.mem_zipIdx_iff_getElem?.mpr hz, rfl⟩, List.mem_singleton.mpr rfl⟩
    · cases h
  · cases h
theorem sf_rf0_ok {a k b : Nat} (h : sf_rf0 a k = some b) : a < b ∧ b < 432 ∧ b ≠ 409 ∧ sf_parl[b]? = some (a, k) := by
  have := List.all_eq_true.mp sf_refs_ok _ (sf_rf0_mem h)
  simpa [Bool.and_eq_true] using this
theorem sf_rf_some {a k b : Nat} (h : sf_rf0 a k = some b) : sf_rf a k = b := by unfold sf_rf; rw [h]
theorem sf_pair_inj : ∀ (a b k j : Nat), 2 ^ a * (2 * k + 1) = 2 ^ b * (2 * j + 1) → a = b ∧ k = j
  | 0, 0, k, j, h => ⟨rfl, by simp at h; omega⟩
  | 0, b + 1, k, j, h => by
    rw [Nat.pow_succ, Nat.mul_comm (2 ^ b) 2, Nat.mul_assoc] at h
    omega
  | a + 1, 0, k, j, h => by
    rw [Nat.pow_succ, Nat.mul_comm (2 ^ a) 2, Nat.mul_assoc] at h
    omega
  | a + 1, b + 1, k, j, h => by
    rw [Nat.pow_succ, Nat.mul_comm (2 ^ a) 2, Nat.mul_assoc, Nat.pow_succ, Nat.mul_comm (2 ^ b) 2, Nat.mul_assoc] at h
    have := sf_pair_inj a b k j (by omega)
    omega
theorem sf_rf_inj (a k b j : Nat) : (sf_rf a k = sf_rf b j) = (a = b ∧ k = j) := by
  apply propext
  constructor
  · intro h
    cases h1 : sf_rf0 a k with
    | some x =>
      have e1 := sf_rf_some h1
      have o1 := sf_rf0_ok h1
      cases h2 : sf_rf0 b j with
      | some z =>
        have e2 := sf_rf_some h2
        have o2 := sf_rf0_ok h2
        have hxz : x = z := by omega
        subst hxz
        have := o1.2.2.2.symm.trans o2.2.2.2
        simpa using this
      | none =>
        have e2 : sf_rf b j = 1000 + 2 ^ b * (2 * j + 1) := by unfold sf_rf; rw [h2]
        omega
    | none =>
      have e1 : sf_rf a k = 1000 + 2 ^ a * (2 * k + 1) := by unfold sf_rf; rw [h1]
      cases h2 : sf_rf0 b j with
      | some z =>
        have e2 := sf_rf_some h2
        have o2 := sf_rf0_ok h2
        omega
      | none =>
        have e2 : sf_rf b j = 1000 + 2 ^ b * (2 * j + 1) := by unfold sf_rf; rw [h2]
        exact sf_pair_inj a b k j (by omega)
  · rintro ⟨rfl, rfl⟩
    rfl
theorem sf_rf_gt (a k : Nat) : a < sf_rf a k := by
  cases h1 : sf_rf0 a k with
  | some x =>
    rw [sf_rf_some h1]
    exact (sf_rf0_ok h1).1
  | none =>
    have e1 : sf_rf a k = 1000 + 2 ^ a * (2 * k + 1) := by unfold sf_rf; rw [h1]
    have : a < 2 ^ a := Nat.lt_two_pow_self
    have h3 : 2 ^ a * 1 ≤ 2 ^ a * (2 * k + 1) := Nat.mul_le_mul_left _ (by omega)
    omega
theorem sf_rf_ne0 (a k : Nat) : (sf_rf a k = 0) = False := by
  have := sf_rf_gt a k
  exact propext ⟨fun h => by omega, fun h => h.elim⟩
theorem sf_rf_neY (a k : Nat) : (sf_rf a k = 409) = False := by
  refine propext ⟨fun h => ?_, fun h => h.elim⟩
  cases h1 : sf_rf0 a k with
  | some x =>
    rw [sf_rf_some h1] at h
    exact (sf_rf0_ok h1).2.2.1 h
  | none =>
    have e1 : sf_rf a k = 1000 + 2 ^ a * (2 * k + 1) := by unfold sf_rf; rw [h1]
    omega
theorem sf_0ne_rf (a k : Nat) : (0 = sf_rf a k) = False := by rw [← sf_rf_ne0 a k]; exact propext eq_comm
theorem sf_Yne_rf (a k : Nat) : (409 = sf_rf a k) = False := by rw [← sf_rf_neY a k]; exact propext eq_comm
theorem sf_rf_self (a k : Nat) : (sf_rf a k = a) = False := by
  have := sf_rf_gt a k
  exact propext ⟨fun h => by omega, fun h => h.elim⟩
theorem sf_self_rf (a k : Nat) : (a = sf_rf a k) = False := by
  have := sf_rf_gt a k
  exact propext ⟨fun h => by omega, fun h => h.elim⟩
theorem sf_rf_self2 (a k j : Nat) : (sf_rf (sf_rf a k) j = a) = False := by
  have h1 := sf_rf_gt a k
  have h2 := sf_rf_gt (sf_rf a k) j
  exact propext ⟨fun h => by omega, fun h => h.elim⟩
theorem sf_self2_rf (a k j : Nat) : (a = sf_rf (sf_rf a k) j) = False := by
  have h1 := sf_rf_gt a k
  have h2 := sf_rf_gt (sf_rf a k) j
  exact propext ⟨fun h => by omega, fun h => h.elim⟩
theorem sf_rf_self3 (a k j i : Nat) : (sf_rf (sf_rf (sf_rf a k) j) i = a) = False := by
  have h1 := sf_rf_gt a k
  have h2 := sf_rf_gt (sf_rf a k) j
  have h3 := sf_rf_gt (sf_rf (sf_rf a k) j) i
  exact propext ⟨fun h => by omega, fun h => h.elim⟩
theorem sf_self3_rf (a k j i : Nat) : (a = sf_rf (sf_rf (sf_rf a k) j) i) = False := by
  have h1 := sf_rf_gt a k
  have h2 := sf_rf_gt (sf_rf a k) j
  have h3 := sf_rf_gt (sf_rf (sf_rf a k) j) i
  exact propext ⟨fun h => by omega, fun h => h.elim⟩
theorem sf_E_get (V : Nat → Nat → Int) (a : Nat) : (sf_E V)[a]? = (sf_M0[a]?).map (sf_fill (V a)) := by
  simp [sf_E, List.getElem?_mapIdx]
theorem sf_chk_at {a : Nat} {c : sf_C} (h : sf_M0[a]? = some c) : sf_chk c = true := List.all_eq_true.mp sf_chk_all c (List.mem_of_getElem? h)
theorem sf_cls_obj {a ci : Nat} (h : sf_cls a = ci) (hc : ci < 100) : ∃ fs : List sf_V, sf_M0[a]? = some (.inl (ci, fs)) ∧ fs.map sf_isR = sf_kd ci ∧ ∀ v ∈ fs, sf_isR v = true ∨ sf_isI v = true := by
  unfold sf_cls at h
  split at h
  · rename_i o ho
    subst h
    have := sf_chk_at ho
    simp only [sf_chk, Bool.and_eq_true, beq_iff_eq, List.all_eq_true, Bool.or_eq_true] at this
    exact ⟨o.2, ho, this.1, this.2⟩
  · omega
  · omega
  · omega
theorem sf_cls_arr {a t : Nat} (h : sf_cls a = 100 + t) (ht : t ≤ 1) : ∃ xs : List Int, sf_M0[a]? = some (.inr (.inl (t, xs))) ∧ sf_len a = xs.length ∧ xs.length ≤ 100000 := by
  unfold sf_cls at h
  split at h
  · rename_i o ho
    have := sf_chk_at ho
    simp only [sf_chk, Bool.and_eq_true, beq_iff_eq, List.all_eq_true, Bool.or_eq_true] at this
    by_cases h13 : o.1 < 100
    · omega
    · have h2 := this.1
      have h3 : sf_kd o.1 = [] := by
        unfold sf_kd
        split <;> first | omega | rfl
      exfalso
      have h4 : o.1 < 13 := by
        have hh : sf_M0.all (fun c => match c with
          | .inl o => decide (o.1 < 13)
          | _ => true) = true := by decide +kernel
        have := List.all_eq_true.mp hh _ (List.mem_of_getElem? ho)
        simpa using this
      omega
  · rename_i q hq
    have h1 : q.1 = t := by omega
    subst h1
    have := sf_chk_at hq
    simp only [sf_chk, Bool.and_eq_true, decide_eq_true_eq] at this
    exact ⟨q.2, hq, by unfold sf_len; rw [hq], this.2⟩
  · omega
  · omega
theorem sf_cls_refs {a : Nat} (h : sf_cls a = 200) : ∃ rs : List (Option Nat), sf_M0[a]? = some (.inr (.inr rs)) ∧ sf_len a = rs.length ∧ rs.length ≤ 100000 ∧ ∀ z ∈ rs, z.isSome = true := by
  unfold sf_cls at h
  split at h
  · rename_i o ho
    exfalso
    have h4 : o.1 < 13 := by
      have hh : sf_M0.all (fun c => match c with
        | .inl o => decide (o.1 < 13)
        | _ => true) = true := by decide +kernel
      have := List.all_eq_true.mp hh _ (List.mem_of_getElem? ho)
      simpa using this
    omega
  · rename_i q hq
    exfalso
    have := sf_chk_at hq
    simp only [sf_chk, Bool.and_eq_true, decide_eq_true_eq] at this
    omega
  · rename_i rs hr
    have := sf_chk_at hr
    simp only [sf_chk, Bool.and_eq_true, decide_eq_true_eq, List.all_eq_true] at this
    exact ⟨rs, hr, by unfold sf_len; rw [hr], this.2, this.1⟩
  · omega
theorem sf_fill_iv {a : Nat} {c : sf_C} (h : sf_M0[a]? = some c) : sf_fill (sf_iv a) c = c := by
  match c, h with
  | .inl o, h =>
    have hiv : ∀ k, sf_iv a k = (match o.2[k]? with
      | some (.inl n) => n
      | _ => 0) := fun k => by unfold sf_iv; rw [h]
    unfold sf_fill
    dsimp only
    congr 1
    refine Prod.ext rfl ?_
    apply List.ext_getElem?
    intro k
    rw [List.getElem?_mapIdx]
    cases hk : o.2[k]? with
    | none => rfl
    | some w =>
      cases w with
      | inl n =>
        show some (Sum.inl (sf_iv a k)) = _
        rw [hiv, hk]
      | inr w => rfl
  | .inr (.inl t), h =>
    have hiv : ∀ k, sf_iv a k = t.2.getD k 0 := fun k => by unfold sf_iv; rw [h]
    unfold sf_fill
    dsimp only
    congr 2
    refine Prod.ext rfl ?_
    apply List.ext_getElem?
    intro k
    rw [List.getElem?_mapIdx, hiv]
    cases hk : t.2[k]? with
    | none => rfl
    | some w => simp [List.getD, hk]
  | .inr (.inr r), h => rfl
theorem sf_E_iv : sf_E sf_iv = sf_M0 := by
  apply List.ext_getElem?
  intro a
  rw [sf_E_get]
  cases h : sf_M0[a]? with
  | none => rfl
  | some c => rw [Option.map_some, sf_fill_iv h]
theorem sf_E_len (V : Nat → Nat → Int) : (sf_E V).length = 432 := by
  unfold sf_E
  rw [List.length_mapIdx]
  decide +kernel
/-- writing an int -/
theorem sf_E_upd {V : Nat → Nat → Int} {a k : Nat} {v : Int} {c c' : sf_C} (h : sf_M0[a]? = some c) (hc : c' = sf_fill (sf_upd V a k v a) c) : sf_E (sf_upd V a k v) = (sf_E V).set a c' := by
  apply List.ext_getElem?
  intro b
  rw [sf_E_get, List.getElem?_set]
  have hl : a < (sf_E V).length := by
    have : (sf_E V)[a]? = some (sf_fill (V a) c) := by rw [sf_E_get, h]; rfl
    exact (List.getElem?_eq_some_iff.mp this).1
  by_cases hab : a = b
  · subst hab
    rw [if_pos rfl, if_pos hl, h, hc]
    rfl
  · rw [if_neg hab, sf_E_get]
    congr 1
    funext z
    congr 1
    funext j
    unfold sf_upd
    rw [if_neg (fun e => hab e.1.symm)]

def sf_ctab : List (Nat × Nat × Nat) := [(0, 0, 7), (0, 1, 7), (1, 0, 8), (2, 0, 7), (2, 1, 7), (2, 2, 7), (2, 3, 7), (3, 0, 7), (3, 1, 7), (3, 2, 7), (3, 3, 7), (4, 0, 8), (5, 0, 8), (5, 1, 7), (5, 2, 7), (5, 3, 7), (5, 4, 7), (6, 0, 9), (6, 1, 7), (6, 2, 7), (7, 0, 100), (8, 0, 200), (8, 1, 9), (9, 0, 7), (9, 1, 7), (9, 2, 7), (10, 0, 7), (10, 1, 2), (11, 0, 10), (11, 1, 2), (11, 2, 9), (11, 3, 9), (11, 4, 4), (11, 5, 8), (11, 6, 7), (11, 7, 7), (11, 8, 3), (11, 9, 0), (11, 10, 5), (11, 11, 1), (11, 12, 6), (12, 2, 100), (12, 3, 100), (12, 4, 100), (12, 5, 100), (12, 7, 100), (12, 8, 101), (12, 9, 100), (12, 11, 100), (12, 13, 100), (12, 19, 100), (12, 20, 100), (12, 21, 100), (12, 22, 100), (12, 23, 100), (12, 28, 100), (12, 29, 100), (12, 30, 100), (12, 31, 100), (12, 34, 100), (12, 35, 100), (12, 36, 100), (12, 39, 100)]
theorem sf_ctab_ok : sf_refs.all (fun q => match sf_M0[q.1]? with
  | some (.inl o) => decide ((o.1, q.2.1, sf_cls q.2.2) ∈ sf_ctab)
  | some (.inr (.inr _)) => decide (sf_cls q.2.2 = 9)
  | _ => true) = true := by decide +kernel
theorem sf_ctab_fn : ∀ p ∈ sf_ctab, ∀ q ∈ sf_ctab, p.1 = q.1 → p.2.1 = q.2.1 → p.2.2 = q.2.2 := by decide +kernel
theorem sf_kd_ref {a ci k : Nat} (h : sf_cls a = ci) (hc : ci < 100) (hk : (sf_kd ci)[k]? = some true) : ∃ b fs, sf_M0[a]? = some (.inl (ci, fs)) ∧ fs[k]? = some (.inr (.inl (some b))) ∧ sf_rf a k = b := by
  obtain ⟨fs, h1, h2, h3⟩ := sf_cls_obj h hc
  rw [← h2, List.getElem?_map] at hk
  cases hv : fs[k]? with
  | none => rw [hv] at hk; cases hk
  | some v =>
    rw [hv] at hk
    simp only [Option.map_some, Option.some.injEq] at hk
    match v, hk, hv with
    | .inr (.inl (some b)), _, hv =>
      refine ⟨b, fs, h1, hv, ?_⟩
      unfold sf_rf sf_rf0
      rw [h1]
      simp only [hv]
theorem sf_kd_int {a ci k : Nat} (h : sf_cls a = ci) (hc : ci < 100) (hk : (sf_kd ci)[k]? = some false) : ∃ n fs, sf_M0[a]? = some (.inl (ci, fs)) ∧ fs[k]? = some (.inl n) := by
  obtain ⟨fs, h1, h2, h3⟩ := sf_cls_obj h hc
  rw [← h2, List.getElem?_map] at hk
  cases hv : fs[k]? with
  | none => rw [hv] at hk; cases hk
  | some v =>
    rw [hv] at hk
    simp only [Option.map_some, Option.some.injEq] at hk
    rcases h3 v (List.mem_of_getElem? hv) with q | q
    · rw [q] at hk; cases hk
    · match v, q, hv with
      | .inl n, _, hv => exact ⟨n, fs, h1, hv⟩
theorem sf_child {a ci : Nat} (h : sf_cls a = ci) (k cj : Nat) (hm : (ci, k, cj) ∈ sf_ctab ∧ ci < 100 ∧ (sf_kd ci)[k]? = some true) : sf_cls (sf_rf a k) = cj := by
  obtain ⟨b, fs, h1, h2, h3⟩ := sf_kd_ref h hm.2.1 hm.2.2
  have h0 : sf_rf0 a k = some b := by unfold sf_rf0; rw [h1]; simp only [h2]
  have := List.all_eq_true.mp sf_ctab_ok _ (sf_rf0_mem h0)
  simp only [h1, decide_eq_true_eq] at this
  rw [h3]
  exact sf_ctab_fn _ this _ hm.1 rfl rfl
theorem sf_elem {a i : Nat} (h : sf_cls a = 200) (hi : i < sf_len a) : sf_cls (sf_rf a i) = 9 ∧ ∃ rs, sf_M0[a]? = some (.inr (.inr rs)) ∧ rs[i]? = some (some (sf_rf a i)) := by
  obtain ⟨rs, h1, h2, h3, h4⟩ := sf_cls_refs h
  have hlt : i < rs.length := by omega
  have hg : rs[i]? = some rs[i] := List.getElem?_eq_getElem hlt
  have hs := h4 rs[i] (List.getElem_mem hlt)
  cases hb : rs[i] with
  | none => rw [hb] at hs; cases hs
  | some b =>
    rw [hb] at hg
    have h0 : sf_rf0 a i = some b := by unfold sf_rf0; rw [h1]; simp only [hg]
    have h5 := sf_rf_some h0
    have := List.all_eq_true.mp sf_ctab_ok _ (sf_rf0_mem h0)
    simp only [h1, decide_eq_true_eq] at this
    rw [h5]
    exact ⟨this, rs, h1, hg⟩

theorem sf_c0_0 {a : Nat} (h : sf_cls a = 0) : sf_cls (sf_rf a 0) = 7 := sf_child h 0 7 (by decide)
theorem sf_c0_1 {a : Nat} (h : sf_cls a = 0) : sf_cls (sf_rf a 1) = 7 := sf_child h 1 7 (by decide)
theorem sf_c1_0 {a : Nat} (h : sf_cls a = 1) : sf_cls (sf_rf a 0) = 8 := sf_child h 0 8 (by decide)
theorem sf_c2_0 {a : Nat} (h : sf_cls a = 2) : sf_cls (sf_rf a 0) = 7 := sf_child h 0 7 (by decide)
theorem sf_c2_1 {a : Nat} (h : sf_cls a = 2) : sf_cls (sf_rf a 1) = 7 := sf_child h 1 7 (by decide)
theorem sf_c2_2 {a : Nat} (h : sf_cls a = 2) : sf_cls (sf_rf a 2) = 7 := sf_child h 2 7 (by decide)
theorem sf_c2_3 {a : Nat} (h : sf_cls a = 2) : sf_cls (sf_rf a 3) = 7 := sf_child h 3 7 (by decide)
theorem sf_c3_0 {a : Nat} (h : sf_cls a = 3) : sf_cls (sf_rf a 0) = 7 := sf_child h 0 7 (by decide)
theorem sf_c3_1 {a : Nat} (h : sf_cls a = 3) : sf_cls (sf_rf a 1) = 7 := sf_child h 1 7 (by decide)
theorem sf_c3_2 {a : Nat} (h : sf_cls a = 3) : sf_cls (sf_rf a 2) = 7 := sf_child h 2 7 (by decide)
theorem sf_c3_3 {a : Nat} (h : sf_cls a = 3) : sf_cls (sf_rf a 3) = 7 := sf_child h 3 7 (by decide)
theorem sf_c4_0 {a : Nat} (h : sf_cls a = 4) : sf_cls (sf_rf a 0) = 8 := sf_child h 0 8 (by decide)
theorem sf_c5_0 {a : Nat} (h : sf_cls a = 5) : sf_cls (sf_rf a 0) = 8 := sf_child h 0 8 (by decide)
theorem sf_c5_1 {a : Nat} (h : sf_cls a = 5) : sf_cls (sf_rf a 1) = 7 := sf_child h 1 7 (by decide)
theorem sf_c5_2 {a : Nat} (h : sf_cls a = 5) : sf_cls (sf_rf a 2) = 7 := sf_child h 2 7 (by decide)
theorem sf_c5_3 {a : Nat} (h : sf_cls a = 5) : sf_cls (sf_rf a 3) = 7 := sf_child h 3 7 (by decide)
theorem sf_c5_4 {a : Nat} (h : sf_cls a = 5) : sf_cls (sf_rf a 4) = 7 := sf_child h 4 7 (by decide)
theorem sf_c6_0 {a : Nat} (h : sf_cls a = 6) : sf_cls (sf_rf a 0) = 9 := sf_child h 0 9 (by decide)
theorem sf_c6_1 {a : Nat} (h : sf_cls a = 6) : sf_cls (sf_rf a 1) = 7 := sf_child h 1 7 (by decide)
theorem sf_c6_2 {a : Nat} (h : sf_cls a = 6) : sf_cls (sf_rf a 2) = 7 := sf_child h 2 7 (by decide)
theorem sf_c7_0 {a : Nat} (h : sf_cls a = 7) : sf_cls (sf_rf a 0) = 100 := sf_child h 0 100 (by decide)
theorem sf_c8_0 {a : Nat} (h : sf_cls a = 8) : sf_cls (sf_rf a 0) = 200 := sf_child h 0 200 (by decide)
theorem sf_c8_1 {a : Nat} (h : sf_cls a = 8) : sf_cls (sf_rf a 1) = 9 := sf_child h 1 9 (by decide)
theorem sf_c9_0 {a : Nat} (h : sf_cls a = 9) : sf_cls (sf_rf a 0) = 7 := sf_child h 0 7 (by decide)
theorem sf_c9_1 {a : Nat} (h : sf_cls a = 9) : sf_cls (sf_rf a 1) = 7 := sf_child h 1 7 (by decide)
theorem sf_c9_2 {a : Nat} (h : sf_cls a = 9) : sf_cls (sf_rf a 2) = 7 := sf_child h 2 7 (by decide)
theorem sf_c10_0 {a : Nat} (h : sf_cls a = 10) : sf_cls (sf_rf a 0) = 7 := sf_child h 0 7 (by decide)
theorem sf_c10_1 {a : Nat} (h : sf_cls a = 10) : sf_cls (sf_rf a 1) = 2 := sf_child h 1 2 (by decide)
theorem sf_c11_0 {a : Nat} (h : sf_cls a = 11) : sf_cls (sf_rf a 0) = 10 := sf_child h 0 10 (by decide)
theorem sf_c11_1 {a : Nat} (h : sf_cls a = 11) : sf_cls (sf_rf a 1) = 2 := sf_child h 1 2 (by decide)
theorem sf_c11_2 {a : Nat} (h : sf_cls a = 11) : sf_cls (sf_rf a 2) = 9 := sf_child h 2 9 (by decide)
theorem sf_c11_3 {a : Nat} (h : sf_cls a = 11) : sf_cls (sf_rf a 3) = 9 := sf_child h 3 9 (by decide)
theorem sf_c11_4 {a : Nat} (h : sf_cls a = 11) : sf_cls (sf_rf a 4) = 4 := sf_child h 4 4 (by decide)
theorem sf_c11_5 {a : Nat} (h : sf_cls a = 11) : sf_cls (sf_rf a 5) = 8 := sf_child h 5 8 (by decide)
theorem sf_c11_6 {a : Nat} (h : sf_cls a = 11) : sf_cls (sf_rf a 6) = 7 := sf_child h 6 7 (by decide)
theorem sf_c11_7 {a : Nat} (h : sf_cls a = 11) : sf_cls (sf_rf a 7) = 7 := sf_child h 7 7 (by decide)
theorem sf_c11_8 {a : Nat} (h : sf_cls a = 11) : sf_cls (sf_rf a 8) = 3 := sf_child h 8 3 (by decide)
theorem sf_c11_9 {a : Nat} (h : sf_cls a = 11) : sf_cls (sf_rf a 9) = 0 := sf_child h 9 0 (by decide)
theorem sf_c11_10 {a : Nat} (h : sf_cls a = 11) : sf_cls (sf_rf a 10) = 5 := sf_child h 10 5 (by decide)
theorem sf_c11_11 {a : Nat} (h : sf_cls a = 11) : sf_cls (sf_rf a 11) = 1 := sf_child h 11 1 (by decide)
theorem sf_c11_12 {a : Nat} (h : sf_cls a = 11) : sf_cls (sf_rf a 12) = 6 := sf_child h 12 6 (by decide)
theorem sf_c12_2 {a : Nat} (h : sf_cls a = 12) : sf_cls (sf_rf a 2) = 100 := sf_child h 2 100 (by decide)
theorem sf_c12_3 {a : Nat} (h : sf_cls a = 12) : sf_cls (sf_rf a 3) = 100 := sf_child h 3 100 (by decide)
theorem sf_c12_4 {a : Nat} (h : sf_cls a = 12) : sf_cls (sf_rf a 4) = 100 := sf_child h 4 100 (by decide)
theorem sf_c12_5 {a : Nat} (h : sf_cls a = 12) : sf_cls (sf_rf a 5) = 100 := sf_child h 5 100 (by decide)
theorem sf_c12_7 {a : Nat} (h : sf_cls a = 12) : sf_cls (sf_rf a 7) = 100 := sf_child h 7 100 (by decide)
theorem sf_c12_8 {a : Nat} (h : sf_cls a = 12) : sf_cls (sf_rf a 8) = 101 := sf_child h 8 101 (by decide)
theorem sf_c12_9 {a : Nat} (h : sf_cls a = 12) : sf_cls (sf_rf a 9) = 100 := sf_child h 9 100 (by decide)
theorem sf_c12_11 {a : Nat} (h : sf_cls a = 12) : sf_cls (sf_rf a 11) = 100 := sf_child h 11 100 (by decide)
theorem sf_c12_13 {a : Nat} (h : sf_cls a = 12) : sf_cls (sf_rf a 13) = 100 := sf_child h 13 100 (by decide)
theorem sf_c12_19 {a : Nat} (h : sf_cls a = 12) : sf_cls (sf_rf a 19) = 100 := sf_child h 19 100 (by decide)
theorem sf_c12_20 {a : Nat} (h : sf_cls a = 12) : sf_cls (sf_rf a 20) = 100 := sf_child h 20 100 (by decide)
theorem sf_c12_21 {a : Nat} (h : sf_cls a = 12) : sf_cls (sf_rf a 21) = 100 := sf_child h 21 100 (by decide)
theorem sf_c12_22 {a : Nat} (h : sf_cls a = 12) : sf_cls (sf_rf a 22) = 100 := sf_child h 22 100 (by decide)
theorem sf_c12_23 {a : Nat} (h : sf_cls a = 12) : sf_cls (sf_rf a 23) = 100 := sf_child h 23 100 (by decide)
theorem sf_c12_28 {a : Nat} (h : sf_cls a = 12) : sf_cls (sf_rf a 28) = 100 := sf_child h 28 100 (by decide)
theorem sf_c12_29 {a : Nat} (h : sf_cls a = 12) : sf_cls (sf_rf a 29) = 100 := sf_child h 29 100 (by decide)
theorem sf_c12_30 {a : Nat} (h : sf_cls a = 12) : sf_cls (sf_rf a 30) = 100 := sf_child h 30 100 (by decide)
theorem sf_c12_31 {a : Nat} (h : sf_cls a = 12) : sf_cls (sf_rf a 31) = 100 := sf_child h 31 100 (by decide)
theorem sf_c12_34 {a : Nat} (h : sf_cls a = 12) : sf_cls (sf_rf a 34) = 100 := sf_child h 34 100 (by decide)
theorem sf_c12_35 {a : Nat} (h : sf_cls a = 12) : sf_cls (sf_rf a 35) = 100 := sf_child h 35 100 (by decide)
theorem sf_c12_36 {a : Nat} (h : sf_cls a = 12) : sf_cls (sf_rf a 36) = 100 := sf_child h 36 100 (by decide)
theorem sf_c12_39 {a : Nat} (h : sf_cls a = 12) : sf_cls (sf_rf a 39) = 100 := sf_child h 39 100 (by decide)
