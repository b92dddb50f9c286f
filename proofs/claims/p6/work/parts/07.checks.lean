-- EVERY ENTRY OF THE LISTS OF 03 IS CHECKED
def ip_okl (y : Nat) : Bool := (ip_cs.getD y []).all fun q => ip_ok y q.1 q.2
set_option maxRecDepth 100000 in
theorem ip_o0 : ip_okl 0 = true := by decide +kernel
set_option maxRecDepth 100000 in
theorem ip_o1 : ip_okl 1 = true := by decide +kernel
set_option maxRecDepth 100000 in
theorem ip_o2 : ip_okl 2 = true := by decide +kernel
set_option maxRecDepth 100000 in
theorem ip_o3 : ip_okl 3 = true := by decide +kernel
set_option maxRecDepth 100000 in
theorem ip_o4 : ip_okl 4 = true := by decide +kernel
set_option maxRecDepth 100000 in
theorem ip_o5 : ip_okl 5 = true := by decide +kernel
set_option maxRecDepth 100000 in
theorem ip_o6 : ip_okl 6 = true := by decide +kernel
set_option maxRecDepth 100000 in
theorem ip_o7 : ip_okl 7 = true := by decide +kernel
set_option maxRecDepth 100000 in
theorem ip_o8 : ip_okl 8 = true := by decide +kernel
set_option maxRecDepth 100000 in
theorem ip_o9 : ip_okl 9 = true := by decide +kernel
set_option maxRecDepth 100000 in
theorem ip_o10 : ip_okl 10 = true := by decide +kernel
set_option maxRecDepth 100000 in
theorem ip_o11 : ip_okl 11 = true := by decide +kernel
set_option maxRecDepth 100000 in
theorem ip_o12 : ip_okl 12 = true := by decide +kernel
set_option maxRecDepth 100000 in
theorem ip_o13 : ip_okl 13 = true := by decide +kernel
set_option maxRecDepth 100000 in
theorem ip_o14 : ip_okl 14 = true := by decide +kernel
set_option maxRecDepth 100000 in
theorem ip_o15 : ip_okl 15 = true := by decide +kernel
set_option maxRecDepth 100000 in
theorem ip_o16 : ip_okl 16 = true := by decide +kernel
set_option maxRecDepth 100000 in
theorem ip_o17 : ip_okl 17 = true := by decide +kernel
set_option maxRecDepth 100000 in
theorem ip_o18 : ip_okl 18 = true := by decide +kernel
set_option maxRecDepth 100000 in
theorem ip_o19 : ip_okl 19 = true := by decide +kernel
set_option maxRecDepth 100000 in
theorem ip_o20 : ip_okl 20 = true := by decide +kernel
set_option maxRecDepth 100000 in
theorem ip_o21 : ip_okl 21 = true := by decide +kernel
set_option maxRecDepth 100000 in
theorem ip_o22 : ip_okl 22 = true := by decide +kernel
set_option maxRecDepth 100000 in
theorem ip_o23 : ip_okl 23 = true := by decide +kernel
set_option maxRecDepth 100000 in
theorem ip_o24 : ip_okl 24 = true := by decide +kernel
set_option maxRecDepth 100000 in
theorem ip_o25 : ip_okl 25 = true := by decide +kernel
set_option maxRecDepth 100000 in
theorem ip_o26 : ip_okl 26 = true := by decide +kernel
set_option maxRecDepth 100000 in
theorem ip_o27 : ip_okl 27 = true := by decide +kernel
set_option maxRecDepth 100000 in
theorem ip_o28 : ip_okl 28 = true := by decide +kernel
set_option maxRecDepth 100000 in
theorem ip_o29 : ip_okl 29 = true := by decide +kernel
set_option maxRecDepth 100000 in
theorem ip_o30 : ip_okl 30 = true := by decide +kernel
set_option maxRecDepth 100000 in
theorem ip_o31 : ip_okl 31 = true := by decide +kernel
set_option maxRecDepth 100000 in
theorem ip_o32 : ip_okl 32 = true := by decide +kernel
set_option maxRecDepth 100000 in
theorem ip_o33 : ip_okl 33 = true := by decide +kernel
set_option maxRecDepth 100000 in
theorem ip_o34 : ip_okl 34 = true := by decide +kernel
set_option maxRecDepth 100000 in
theorem ip_o35 : ip_okl 35 = true := by decide +kernel
set_option maxRecDepth 100000 in
theorem ip_o36 : ip_okl 36 = true := by decide +kernel
set_option maxRecDepth 100000 in
theorem ip_o37 : ip_okl 37 = true := by decide +kernel
set_option maxRecDepth 100000 in
theorem ip_o38 : ip_okl 38 = true := by decide +kernel
set_option maxRecDepth 100000 in
theorem ip_o39 : ip_okl 39 = true := by decide +kernel
set_option maxRecDepth 100000 in
theorem ip_o40 : ip_okl 40 = true := by decide +kernel
set_option maxRecDepth 100000 in
theorem ip_o41 : ip_okl 41 = true := by decide +kernel
set_option maxRecDepth 100000 in
theorem ip_o42 : ip_okl 42 = true := by decide +kernel
set_option maxRecDepth 100000 in
theorem ip_o43 : ip_okl 43 = true := by decide +kernel
set_option maxRecDepth 100000 in
theorem ip_o44 : ip_okl 44 = true := by decide +kernel
set_option maxRecDepth 100000 in
theorem ip_o45 : ip_okl 45 = true := by decide +kernel
set_option maxRecDepth 100000 in
theorem ip_o46 : ip_okl 46 = true := by decide +kernel
set_option maxRecDepth 100000 in
theorem ip_o47 : ip_okl 47 = true := by decide +kernel
set_option maxRecDepth 100000 in
theorem ip_o48 : ip_okl 48 = true := by decide +kernel
set_option maxRecDepth 100000 in
theorem ip_o49 : ip_okl 49 = true := by decide +kernel
set_option maxRecDepth 100000 in
theorem ip_o50 : ip_okl 50 = true := by decide +kernel
set_option maxRecDepth 100000 in
theorem ip_o51 : ip_okl 51 = true := by decide +kernel
set_option maxRecDepth 100000 in
theorem ip_o52 : ip_okl 52 = true := by decide +kernel
set_option maxRecDepth 100000 in
theorem ip_o53 : ip_okl 53 = true := by decide +kernel
set_option maxRecDepth 100000 in
theorem ip_o54 : ip_okl 54 = true := by decide +kernel
set_option maxRecDepth 100000 in
theorem ip_o55 : ip_okl 55 = true := by decide +kernel
set_option maxRecDepth 100000 in
theorem ip_o56 : ip_okl 56 = true := by decide +kernel
set_option maxRecDepth 100000 in
theorem ip_o57 : ip_okl 57 = true := by decide +kernel
set_option maxRecDepth 100000 in
theorem ip_o58 : ip_okl 58 = true := by decide +kernel
set_option maxRecDepth 100000 in
theorem ip_o59 : ip_okl 59 = true := by decide +kernel
set_option maxRecDepth 100000 in
theorem ip_o60 : ip_okl 60 = true := by decide +kernel
set_option maxRecDepth 100000 in
theorem ip_o61 : ip_okl 61 = true := by decide +kernel
set_option maxRecDepth 100000 in
theorem ip_o62 : ip_okl 62 = true := by decide +kernel
set_option maxRecDepth 100000 in
theorem ip_o63 : ip_okl 63 = true := by decide +kernel
set_option maxRecDepth 100000 in
theorem ip_o64 : ip_okl 64 = true := by decide +kernel
set_option maxRecDepth 100000 in
theorem ip_o65 : ip_okl 65 = true := by decide +kernel
set_option maxRecDepth 100000 in
theorem ip_o66 : ip_okl 66 = true := by decide +kernel
set_option maxRecDepth 100000 in
theorem ip_o67 : ip_okl 67 = true := by decide +kernel
set_option maxRecDepth 100000 in
theorem ip_o68 : ip_okl 68 = true := by decide +kernel
set_option maxRecDepth 100000 in
theorem ip_o69 : ip_okl 69 = true := by decide +kernel
set_option maxRecDepth 100000 in
theorem ip_o70 : ip_okl 70 = true := by decide +kernel
set_option maxRecDepth 100000 in
theorem ip_o71 : ip_okl 71 = true := by decide +kernel
set_option maxRecDepth 100000 in
theorem ip_o72 : ip_okl 72 = true := by decide +kernel
set_option maxRecDepth 100000 in
theorem ip_o73 : ip_okl 73 = true := by decide +kernel
set_option maxRecDepth 100000 in
theorem ip_o74 : ip_okl 74 = true := by decide +kernel
set_option maxRecDepth 100000 in
theorem ip_o75 : ip_okl 75 = true := by decide +kernel
set_option maxRecDepth 100000 in
theorem ip_o76 : ip_okl 76 = true := by decide +kernel
set_option maxRecDepth 100000 in
theorem ip_o77 : ip_okl 77 = true := by decide +kernel
set_option maxRecDepth 100000 in
theorem ip_o78 : ip_okl 78 = true := by decide +kernel
set_option maxRecDepth 100000 in
theorem ip_o79 : ip_okl 79 = true := by decide +kernel
set_option maxRecDepth 100000 in
theorem ip_o80 : ip_okl 80 = true := by decide +kernel
set_option maxRecDepth 100000 in
theorem ip_o81 : ip_okl 81 = true := by decide +kernel
set_option maxRecDepth 100000 in
theorem ip_o82 : ip_okl 82 = true := by decide +kernel
set_option maxRecDepth 100000 in
theorem ip_o83 : ip_okl 83 = true := by decide +kernel
set_option maxRecDepth 100000 in
theorem ip_o84 : ip_okl 84 = true := by decide +kernel
set_option maxRecDepth 100000 in
theorem ip_o85 : ip_okl 85 = true := by decide +kernel
set_option maxRecDepth 100000 in
theorem ip_o86 : ip_okl 86 = true := by decide +kernel
set_option maxRecDepth 100000 in
theorem ip_o87 : ip_okl 87 = true := by decide +kernel
set_option maxRecDepth 100000 in
theorem ip_o88 : ip_okl 88 = true := by decide +kernel
set_option maxRecDepth 100000 in
theorem ip_o89 : ip_okl 89 = true := by decide +kernel
set_option maxRecDepth 100000 in
theorem ip_o90 : ip_okl 90 = true := by decide +kernel
set_option maxRecDepth 100000 in
theorem ip_o91 : ip_okl 91 = true := by decide +kernel
set_option maxRecDepth 100000 in
theorem ip_o92 : ip_okl 92 = true := by decide +kernel
set_option maxRecDepth 100000 in
theorem ip_o93 : ip_okl 93 = true := by decide +kernel
set_option maxRecDepth 100000 in
theorem ip_o94 : ip_okl 94 = true := by decide +kernel
set_option maxRecDepth 100000 in
theorem ip_o95 : ip_okl 95 = true := by decide +kernel
set_option maxRecDepth 100000 in
theorem ip_o96 : ip_okl 96 = true := by decide +kernel
set_option maxRecDepth 100000 in
theorem ip_o97 : ip_okl 97 = true := by decide +kernel
set_option maxRecDepth 100000 in
theorem ip_o98 : ip_okl 98 = true := by decide +kernel
set_option maxRecDepth 100000 in
theorem ip_o99 : ip_okl 99 = true := by decide +kernel
set_option maxRecDepth 100000 in
theorem ip_o100 : ip_okl 100 = true := by decide +kernel
set_option maxRecDepth 100000 in
theorem ip_o101 : ip_okl 101 = true := by decide +kernel
set_option maxRecDepth 100000 in
theorem ip_o102 : ip_okl 102 = true := by decide +kernel
set_option maxRecDepth 100000 in
theorem ip_o103 : ip_okl 103 = true := by decide +kernel
set_option maxRecDepth 100000 in
theorem ip_o104 : ip_okl 104 = true := by decide +kernel
set_option maxRecDepth 100000 in
theorem ip_o105 : ip_okl 105 = true := by decide +kernel
set_option maxRecDepth 100000 in
theorem ip_o106 : ip_okl 106 = true := by decide +kernel
set_option maxRecDepth 100000 in
theorem ip_o107 : ip_okl 107 = true := by decide +kernel
set_option maxRecDepth 100000 in
theorem ip_o108 : ip_okl 108 = true := by decide +kernel
set_option maxRecDepth 100000 in
theorem ip_o109 : ip_okl 109 = true := by decide +kernel
set_option maxRecDepth 100000 in
theorem ip_o110 : ip_okl 110 = true := by decide +kernel
set_option maxRecDepth 100000 in
theorem ip_o111 : ip_okl 111 = true := by decide +kernel
set_option maxRecDepth 100000 in
theorem ip_o112 : ip_okl 112 = true := by decide +kernel
set_option maxRecDepth 100000 in
theorem ip_o113 : ip_okl 113 = true := by decide +kernel
set_option maxRecDepth 100000 in
theorem ip_o114 : ip_okl 114 = true := by decide +kernel
set_option maxRecDepth 100000 in
theorem ip_o115 : ip_okl 115 = true := by decide +kernel
set_option maxRecDepth 100000 in
theorem ip_o116 : ip_okl 116 = true := by decide +kernel
set_option maxRecDepth 100000 in
theorem ip_o117 : ip_okl 117 = true := by decide +kernel
set_option maxRecDepth 100000 in
theorem ip_o118 : ip_okl 118 = true := by decide +kernel
set_option maxRecDepth 100000 in
theorem ip_o119 : ip_okl 119 = true := by decide +kernel
set_option maxRecDepth 100000 in
theorem ip_o120 : ip_okl 120 = true := by decide +kernel
set_option maxRecDepth 100000 in
theorem ip_o121 : ip_okl 121 = true := by decide +kernel
set_option maxRecDepth 100000 in
theorem ip_o122 : ip_okl 122 = true := by decide +kernel
set_option maxRecDepth 100000 in
theorem ip_o123 : ip_okl 123 = true := by decide +kernel
set_option maxRecDepth 100000 in
theorem ip_o124 : ip_okl 124 = true := by decide +kernel
set_option maxRecDepth 100000 in
theorem ip_o125 : ip_okl 125 = true := by decide +kernel
set_option maxRecDepth 100000 in
theorem ip_o126 : ip_okl 126 = true := by decide +kernel
set_option maxRecDepth 100000 in
theorem ip_o127 : ip_okl 127 = true := by decide +kernel
set_option maxRecDepth 100000 in
theorem ip_o128 : ip_okl 128 = true := by decide +kernel
set_option maxRecDepth 100000 in
theorem ip_o129 : ip_okl 129 = true := by decide +kernel
set_option maxRecDepth 100000 in
theorem ip_o130 : ip_okl 130 = true := by decide +kernel
set_option maxRecDepth 100000 in
theorem ip_o131 : ip_okl 131 = true := by decide +kernel
set_option maxRecDepth 100000 in
theorem ip_o132 : ip_okl 132 = true := by decide +kernel
set_option maxRecDepth 100000 in
theorem ip_o133 : ip_okl 133 = true := by decide +kernel
set_option maxRecDepth 100000 in
theorem ip_o134 : ip_okl 134 = true := by decide +kernel
set_option maxRecDepth 100000 in
theorem ip_o135 : ip_okl 135 = true := by decide +kernel
set_option maxRecDepth 100000 in
theorem ip_o136 : ip_okl 136 = true := by decide +kernel
set_option maxRecDepth 100000 in
theorem ip_o137 : ip_okl 137 = true := by decide +kernel
set_option maxRecDepth 100000 in
theorem ip_o138 : ip_okl 138 = true := by decide +kernel
set_option maxRecDepth 100000 in
theorem ip_o139 : ip_okl 139 = true := by decide +kernel
set_option maxRecDepth 100000 in
theorem ip_o140 : ip_okl 140 = true := by decide +kernel
set_option maxRecDepth 100000 in
theorem ip_o141 : ip_okl 141 = true := by decide +kernel
set_option maxRecDepth 100000 in
theorem ip_o142 : ip_okl 142 = true := by decide +kernel
set_option maxRecDepth 100000 in
theorem ip_o143 : ip_okl 143 = true := by decide +kernel
set_option maxRecDepth 100000 in
theorem ip_o144 : ip_okl 144 = true := by decide +kernel
set_option maxRecDepth 100000 in
theorem ip_o145 : ip_okl 145 = true := by decide +kernel
set_option maxRecDepth 100000 in
theorem ip_o146 : ip_okl 146 = true := by decide +kernel
set_option maxRecDepth 100000 in
theorem ip_o147 : ip_okl 147 = true := by decide +kernel
set_option maxRecDepth 100000 in
theorem ip_o148 : ip_okl 148 = true := by decide +kernel
set_option maxRecDepth 100000 in
theorem ip_o149 : ip_okl 149 = true := by decide +kernel
set_option maxRecDepth 100000 in
theorem ip_o150 : ip_okl 150 = true := by decide +kernel
set_option maxRecDepth 100000 in
theorem ip_o151 : ip_okl 151 = true := by decide +kernel
set_option maxRecDepth 100000 in
theorem ip_o152 : ip_okl 152 = true := by decide +kernel
set_option maxRecDepth 100000 in
theorem ip_o153 : ip_okl 153 = true := by decide +kernel
set_option maxRecDepth 100000 in
theorem ip_o154 : ip_okl 154 = true := by decide +kernel
set_option maxRecDepth 100000 in
theorem ip_o155 : ip_okl 155 = true := by decide +kernel
set_option maxRecDepth 100000 in
theorem ip_o156 : ip_okl 156 = true := by decide +kernel
set_option maxRecDepth 100000 in
theorem ip_o157 : ip_okl 157 = true := by decide +kernel
set_option maxRecDepth 100000 in
theorem ip_o158 : ip_okl 158 = true := by decide +kernel
set_option maxRecDepth 100000 in
theorem ip_o159 : ip_okl 159 = true := by decide +kernel
set_option maxRecDepth 100000 in
theorem ip_o160 : ip_okl 160 = true := by decide +kernel
set_option maxRecDepth 100000 in
theorem ip_o161 : ip_okl 161 = true := by decide +kernel
set_option maxRecDepth 100000 in
theorem ip_o162 : ip_okl 162 = true := by decide +kernel
set_option maxRecDepth 100000 in
theorem ip_o163 : ip_okl 163 = true := by decide +kernel
set_option maxRecDepth 100000 in
theorem ip_o164 : ip_okl 164 = true := by decide +kernel
set_option maxRecDepth 100000 in
theorem ip_o165 : ip_okl 165 = true := by decide +kernel
set_option maxRecDepth 100000 in
theorem ip_o166 : ip_okl 166 = true := by decide +kernel
set_option maxRecDepth 100000 in
theorem ip_o167 : ip_okl 167 = true := by decide +kernel
set_option maxRecDepth 100000 in
theorem ip_o168 : ip_okl 168 = true := by decide +kernel
set_option maxRecDepth 100000 in
theorem ip_o169 : ip_okl 169 = true := by decide +kernel
set_option maxRecDepth 100000 in
theorem ip_o170 : ip_okl 170 = true := by decide +kernel
set_option maxRecDepth 100000 in
theorem ip_o171 : ip_okl 171 = true := by decide +kernel
set_option maxRecDepth 100000 in
theorem ip_o172 : ip_okl 172 = true := by decide +kernel
set_option maxRecDepth 100000 in
theorem ip_o173 : ip_okl 173 = true := by decide +kernel
set_option maxRecDepth 100000 in
theorem ip_o174 : ip_okl 174 = true := by decide +kernel
set_option maxRecDepth 100000 in
theorem ip_o175 : ip_okl 175 = true := by decide +kernel
set_option maxRecDepth 100000 in
theorem ip_o176 : ip_okl 176 = true := by decide +kernel
set_option maxRecDepth 100000 in
theorem ip_o177 : ip_okl 177 = true := by decide +kernel
set_option maxRecDepth 100000 in
theorem ip_o178 : ip_okl 178 = true := by decide +kernel
set_option maxRecDepth 100000 in
theorem ip_o179 : ip_okl 179 = true := by decide +kernel
set_option maxRecDepth 100000 in
theorem ip_o180 : ip_okl 180 = true := by decide +kernel
set_option maxRecDepth 100000 in
theorem ip_o181 : ip_okl 181 = true := by decide +kernel
set_option maxRecDepth 100000 in
theorem ip_o182 : ip_okl 182 = true := by decide +kernel
set_option maxRecDepth 100000 in
theorem ip_o183 : ip_okl 183 = true := by decide +kernel
set_option maxRecDepth 100000 in
theorem ip_o184 : ip_okl 184 = true := by decide +kernel
set_option maxRecDepth 100000 in
theorem ip_o185 : ip_okl 185 = true := by decide +kernel
set_option maxRecDepth 100000 in
theorem ip_o186 : ip_okl 186 = true := by decide +kernel
set_option maxRecDepth 100000 in
theorem ip_o187 : ip_okl 187 = true := by decide +kernel
set_option maxRecDepth 100000 in
theorem ip_o188 : ip_okl 188 = true := by decide +kernel
set_option maxRecDepth 100000 in
theorem ip_o189 : ip_okl 189 = true := by decide +kernel
set_option maxRecDepth 100000 in
theorem ip_o190 : ip_okl 190 = true := by decide +kernel
set_option maxRecDepth 100000 in
theorem ip_o191 : ip_okl 191 = true := by decide +kernel
set_option maxRecDepth 100000 in
theorem ip_o192 : ip_okl 192 = true := by decide +kernel
set_option maxRecDepth 100000 in
theorem ip_o193 : ip_okl 193 = true := by decide +kernel
set_option maxRecDepth 100000 in
theorem ip_o194 : ip_okl 194 = true := by decide +kernel
set_option maxRecDepth 100000 in
theorem ip_o195 : ip_okl 195 = true := by decide +kernel
set_option maxRecDepth 100000 in
theorem ip_o196 : ip_okl 196 = true := by decide +kernel
set_option maxRecDepth 100000 in
theorem ip_o197 : ip_okl 197 = true := by decide +kernel
set_option maxRecDepth 100000 in
theorem ip_o198 : ip_okl 198 = true := by decide +kernel
set_option maxRecDepth 100000 in
theorem ip_o199 : ip_okl 199 = true := by decide +kernel
set_option maxRecDepth 100000 in
theorem ip_o200 : ip_okl 200 = true := by decide +kernel
set_option maxRecDepth 100000 in
theorem ip_o201 : ip_okl 201 = true := by decide +kernel
set_option maxRecDepth 100000 in
theorem ip_o202 : ip_okl 202 = true := by decide +kernel
set_option maxRecDepth 100000 in
theorem ip_o203 : ip_okl 203 = true := by decide +kernel
set_option maxRecDepth 100000 in
theorem ip_o204 : ip_okl 204 = true := by decide +kernel
set_option maxRecDepth 100000 in
theorem ip_o205 : ip_okl 205 = true := by decide +kernel
set_option maxRecDepth 100000 in
theorem ip_o206 : ip_okl 206 = true := by decide +kernel
set_option maxRecDepth 100000 in
theorem ip_o207 : ip_okl 207 = true := by decide +kernel
set_option maxRecDepth 100000 in
theorem ip_o208 : ip_okl 208 = true := by decide +kernel
set_option maxRecDepth 100000 in
theorem ip_o209 : ip_okl 209 = true := by decide +kernel
set_option maxRecDepth 100000 in
theorem ip_o210 : ip_okl 210 = true := by decide +kernel
set_option maxRecDepth 100000 in
theorem ip_o211 : ip_okl 211 = true := by decide +kernel
set_option maxRecDepth 100000 in
theorem ip_o212 : ip_okl 212 = true := by decide +kernel
set_option maxRecDepth 100000 in
theorem ip_o213 : ip_okl 213 = true := by decide +kernel
set_option maxRecDepth 100000 in
theorem ip_o214 : ip_okl 214 = true := by decide +kernel
set_option maxRecDepth 100000 in
theorem ip_o215 : ip_okl 215 = true := by decide +kernel
set_option maxRecDepth 100000 in
theorem ip_o216 : ip_okl 216 = true := by decide +kernel
set_option maxRecDepth 100000 in
theorem ip_o217 : ip_okl 217 = true := by decide +kernel
set_option maxRecDepth 100000 in
theorem ip_o218 : ip_okl 218 = true := by decide +kernel
set_option maxRecDepth 100000 in
theorem ip_o219 : ip_okl 219 = true := by decide +kernel
set_option maxRecDepth 100000 in
theorem ip_o220 : ip_okl 220 = true := by decide +kernel
set_option maxRecDepth 100000 in
theorem ip_o221 : ip_okl 221 = true := by decide +kernel
set_option maxRecDepth 100000 in
theorem ip_o222 : ip_okl 222 = true := by decide +kernel
set_option maxRecDepth 100000 in
theorem ip_o223 : ip_okl 223 = true := by decide +kernel
set_option maxRecDepth 100000 in
theorem ip_o224 : ip_okl 224 = true := by decide +kernel
set_option maxRecDepth 100000 in
theorem ip_o225 : ip_okl 225 = true := by decide +kernel
set_option maxRecDepth 100000 in
theorem ip_o226 : ip_okl 226 = true := by decide +kernel
set_option maxRecDepth 100000 in
theorem ip_o227 : ip_okl 227 = true := by decide +kernel
set_option maxRecDepth 100000 in
theorem ip_o228 : ip_okl 228 = true := by decide +kernel
set_option maxRecDepth 100000 in
theorem ip_o229 : ip_okl 229 = true := by decide +kernel
set_option maxRecDepth 100000 in
theorem ip_o230 : ip_okl 230 = true := by decide +kernel
set_option maxRecDepth 100000 in
theorem ip_o231 : ip_okl 231 = true := by decide +kernel
set_option maxRecDepth 100000 in
theorem ip_o232 : ip_okl 232 = true := by decide +kernel
set_option maxRecDepth 100000 in
theorem ip_o233 : ip_okl 233 = true := by decide +kernel
set_option maxRecDepth 100000 in
theorem ip_o234 : ip_okl 234 = true := by decide +kernel
set_option maxRecDepth 100000 in
theorem ip_o235 : ip_okl 235 = true := by decide +kernel
set_option maxRecDepth 100000 in
theorem ip_o236 : ip_okl 236 = true := by decide +kernel
set_option maxRecDepth 100000 in
theorem ip_o237 : ip_okl 237 = true := by decide +kernel
set_option maxRecDepth 100000 in
theorem ip_o238 : ip_okl 238 = true := by decide +kernel
set_option maxRecDepth 100000 in
theorem ip_o239 : ip_okl 239 = true := by decide +kernel
set_option maxRecDepth 100000 in
theorem ip_o240 : ip_okl 240 = true := by decide +kernel
set_option maxRecDepth 100000 in
theorem ip_o241 : ip_okl 241 = true := by decide +kernel
set_option maxRecDepth 100000 in
theorem ip_o242 : ip_okl 242 = true := by decide +kernel
set_option maxRecDepth 100000 in
theorem ip_o243 : ip_okl 243 = true := by decide +kernel
set_option maxRecDepth 100000 in
theorem ip_o244 : ip_okl 244 = true := by decide +kernel
set_option maxRecDepth 100000 in
theorem ip_o245 : ip_okl 245 = true := by decide +kernel
set_option maxRecDepth 100000 in
theorem ip_o246 : ip_okl 246 = true := by decide +kernel
set_option maxRecDepth 100000 in
theorem ip_o247 : ip_okl 247 = true := by decide +kernel
set_option maxRecDepth 100000 in
theorem ip_o248 : ip_okl 248 = true := by decide +kernel
set_option maxRecDepth 100000 in
theorem ip_o249 : ip_okl 249 = true := by decide +kernel
set_option maxRecDepth 100000 in
theorem ip_o250 : ip_okl 250 = true := by decide +kernel
set_option maxRecDepth 100000 in
theorem ip_o251 : ip_okl 251 = true := by decide +kernel
set_option maxRecDepth 100000 in
theorem ip_o252 : ip_okl 252 = true := by decide +kernel
set_option maxRecDepth 100000 in
theorem ip_o253 : ip_okl 253 = true := by decide +kernel
set_option maxRecDepth 100000 in
theorem ip_o254 : ip_okl 254 = true := by decide +kernel
set_option maxRecDepth 100000 in
theorem ip_o255 : ip_okl 255 = true := by decide +kernel
set_option maxRecDepth 100000 in
theorem ip_o256 : ip_okl 256 = true := by decide +kernel
set_option maxRecDepth 100000 in
theorem ip_o257 : ip_okl 257 = true := by decide +kernel
set_option maxRecDepth 100000 in
theorem ip_o258 : ip_okl 258 = true := by decide +kernel
set_option maxRecDepth 100000 in
theorem ip_o259 : ip_okl 259 = true := by decide +kernel
set_option maxRecDepth 100000 in
theorem ip_o260 : ip_okl 260 = true := by decide +kernel
set_option maxRecDepth 100000 in
theorem ip_o261 : ip_okl 261 = true := by decide +kernel
set_option maxRecDepth 100000 in
theorem ip_o262 : ip_okl 262 = true := by decide +kernel
set_option maxRecDepth 100000 in
theorem ip_o263 : ip_okl 263 = true := by decide +kernel
set_option maxRecDepth 100000 in
theorem ip_o264 : ip_okl 264 = true := by decide +kernel
set_option maxRecDepth 100000 in
theorem ip_o265 : ip_okl 265 = true := by decide +kernel
set_option maxRecDepth 100000 in
theorem ip_o266 : ip_okl 266 = true := by decide +kernel
set_option maxRecDepth 100000 in
theorem ip_o267 : ip_okl 267 = true := by decide +kernel
set_option maxRecDepth 100000 in
theorem ip_o268 : ip_okl 268 = true := by decide +kernel
set_option maxRecDepth 100000 in
theorem ip_o269 : ip_okl 269 = true := by decide +kernel
set_option maxRecDepth 100000 in
theorem ip_o270 : ip_okl 270 = true := by decide +kernel
set_option maxRecDepth 100000 in
theorem ip_o271 : ip_okl 271 = true := by decide +kernel
set_option maxRecDepth 100000 in
theorem ip_o272 : ip_okl 272 = true := by decide +kernel
set_option maxRecDepth 100000 in
theorem ip_o273 : ip_okl 273 = true := by decide +kernel
set_option maxRecDepth 100000 in
theorem ip_o274 : ip_okl 274 = true := by decide +kernel
set_option maxRecDepth 100000 in
theorem ip_o275 : ip_okl 275 = true := by decide +kernel
set_option maxRecDepth 100000 in
theorem ip_o276 : ip_okl 276 = true := by decide +kernel
set_option maxRecDepth 100000 in
theorem ip_o277 : ip_okl 277 = true := by decide +kernel
set_option maxRecDepth 100000 in
theorem ip_o278 : ip_okl 278 = true := by decide +kernel
set_option maxRecDepth 100000 in
theorem ip_o279 : ip_okl 279 = true := by decide +kernel
set_option maxRecDepth 100000 in
theorem ip_o280 : ip_okl 280 = true := by decide +kernel
set_option maxRecDepth 100000 in
theorem ip_o281 : ip_okl 281 = true := by decide +kernel
set_option maxRecDepth 100000 in
theorem ip_o282 : ip_okl 282 = true := by decide +kernel
set_option maxRecDepth 100000 in
theorem ip_o283 : ip_okl 283 = true := by decide +kernel
set_option maxRecDepth 100000 in
theorem ip_o284 : ip_okl 284 = true := by decide +kernel
set_option maxRecDepth 100000 in
theorem ip_o285 : ip_okl 285 = true := by decide +kernel
set_option maxRecDepth 100000 in
theorem ip_o286 : ip_okl 286 = true := by decide +kernel
set_option maxRecDepth 100000 in
theorem ip_o287 : ip_okl 287 = true := by decide +kernel
set_option maxRecDepth 100000 in
theorem ip_o288 : ip_okl 288 = true := by decide +kernel
set_option maxRecDepth 100000 in
theorem ip_o289 : ip_okl 289 = true := by decide +kernel
set_option maxRecDepth 100000 in
theorem ip_o290 : ip_okl 290 = true := by decide +kernel
set_option maxRecDepth 100000 in
theorem ip_o291 : ip_okl 291 = true := by decide +kernel
set_option maxRecDepth 100000 in
theorem ip_o292 : ip_okl 292 = true := by decide +kernel
set_option maxRecDepth 100000 in
theorem ip_o293 : ip_okl 293 = true := by decide +kernel
set_option maxRecDepth 100000 in
theorem ip_o294 : ip_okl 294 = true := by decide +kernel
