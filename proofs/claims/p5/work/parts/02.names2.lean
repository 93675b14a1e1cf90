def wsX5_denied : List Cond := .code yX5_denied cX5_denied 2 (some .boolean) :: ([.fieldLink RX5 7 "MirrorTowerModel" "trouble" "I"] ++ wsX50)
def wsX5_done : List Cond := .code yX5_done cX5_done 2 (some .int) :: ([.fieldLink RX5 7 "MirrorTowerModel" "trouble" "I"] ++ wsX50)
def wsX5_granted : List Cond := .code yX5_granted cX5_granted 1 (some .boolean) :: ([.fieldLink RX5 7 "MirrorTowerModel" "trouble" "I"] ++ wsX50)
def wsX5_in : List Cond := .code yX5_in cX5_in 3 (some .boolean) :: ([])
def wsX5_init_r1 : List Cond := [Cond.methodLink RX5 10 objectInit, Cond.instanceMethod objectInit, Cond.code objectInit ⟨#[0xb1]⟩ 1 none, Cond.fieldLink RX5 16 "MirrorTowerModel" "dust" "I", Cond.arrayClass .int, Cond.fieldLink RX5 19 "MirrorTowerModel" "x" "[I", Cond.fieldLink RX5 23 "MirrorTowerModel" "y" "[I", Cond.fieldLink RX5 26 "MirrorTowerModel" "soil" "[I", Cond.fieldLink RX5 29 "MirrorTowerModel" "limit" "[I", Cond.fieldLink RX5 32 "MirrorTowerModel" "sunX" "[I", Cond.fieldLink RX5 35 "MirrorTowerModel" "sunY" "[I", Cond.fieldLink RX5 38 "MirrorTowerModel" "height" "[I", Cond.fieldLink RX5 41 "MirrorTowerModel" "wind" "[I", Cond.fieldLink RX5 44 "MirrorTowerModel" "price" "[I", Cond.fieldLink RX5 47 "MirrorTowerModel" "order" "[I", Cond.fieldLink RX5 50 "MirrorTowerModel" "power" "[I", Cond.fieldLink RX5 53 "MirrorTowerModel" "left" "[I", Cond.fieldLink RX5 56 "MirrorTowerModel" "aimed" "[I", Cond.fieldLink RX5 59 "MirrorTowerModel" "at" "[I", Cond.fieldLink RX5 62 "MirrorTowerModel" "atFace" "[I", Cond.fieldLink RX5 65 "MirrorTowerModel" "aimedMirrors" "I", Cond.fieldLink RX5 68 "MirrorTowerModel" "worth" "[I", Cond.arrayClass .boolean, Cond.fieldLink RX5 71 "MirrorTowerModel" "isRun" "[Z"]
def wsX5_init_r2 : List Cond := [Cond.fieldLink RX5 75 "MirrorTowerModel" "planFrom" "I", Cond.fieldLink RX5 78 "MirrorTowerModel" "comeUnits" "[I", Cond.arrayClass .long, Cond.fieldLink RX5 81 "MirrorTowerModel" "shot" "[J", Cond.fieldLink RX5 85 "MirrorTowerModel" "hits" "[I", Cond.fieldLink RX5 88 "MirrorTowerModel" "inSets" "[I"]
def wsX5_init : List Cond := .code yX5_init cX5_init 2 none :: ((wsX5_init_r1 ++ wsX5_init_r2) ++ wsX50)
def wsX5_isMirror : List Cond := .code yX5_isMirror cX5_isMirror 2 (some .boolean) :: ([.fieldLink RX5 91 "MirrorTowerModel" "mirrors" "I"] ++ wsX50)
def wsX5_isHour : List Cond := .code yX5_isHour cX5_isHour 1 (some .boolean) :: ([])
def wsX5_mirror : List Cond := .code yX5_mirror cX5_mirror 5 (some .int) :: ([.fieldLink RX5 1 "MirrorTowerModel" "thrown" "I", .fieldLink RX5 91 "MirrorTowerModel" "mirrors" "I", .fieldLink RX5 19 "MirrorTowerModel" "x" "[I", .fieldLink RX5 23 "MirrorTowerModel" "y" "[I", .methodLink RX5 94 yX5_in, .static yX5_in, .initialized RX5, .code yX5_in cX5_in 3 (some .boolean), .methodLink RX5 98 yX5_refused, .instanceMethod yX5_refused, .selects RX5 yX5_refused yX5_refused, .code yX5_refused cX5_refused 2 (some .int), .fieldLink RX5 7 "MirrorTowerModel" "trouble" "I", .methodLink RX5 102 yX5_done, .instanceMethod yX5_done, .selects RX5 yX5_done yX5_done, .code yX5_done cX5_done 2 (some .int)] ++ wsX50)
def wsX5_sun : List Cond := .code yX5_sun cX5_sun 5 (some .boolean) :: ([.fieldLink RX5 1 "MirrorTowerModel" "thrown" "I", .fieldLink RX5 32 "MirrorTowerModel" "sunX" "[I", .fieldLink RX5 35 "MirrorTowerModel" "sunY" "[I", .fieldLink RX5 38 "MirrorTowerModel" "height" "[I", .methodLink RX5 105 yX5_isHour, .static yX5_isHour, .initialized RX5, .code yX5_isHour cX5_isHour 1 (some .boolean), .methodLink RX5 94 yX5_in, .static yX5_in, .code yX5_in cX5_in 3 (some .boolean), .methodLink RX5 109 yX5_denied, .instanceMethod yX5_denied, .selects RX5 yX5_denied yX5_denied, .code yX5_denied cX5_denied 2 (some .boolean), .fieldLink RX5 7 "MirrorTowerModel" "trouble" "I", .methodLink RX5 112 yX5_granted, .instanceMethod yX5_granted, .selects RX5 yX5_granted yX5_granted, .code yX5_granted cX5_granted 1 (some .boolean)] ++ wsX50)
def wsX5_limit : List Cond := .code yX5_limit cX5_limit 3 (some .boolean) :: ([.fieldLink RX5 1 "MirrorTowerModel" "thrown" "I", .fieldLink RX5 29 "MirrorTowerModel" "limit" "[I", .methodLink RX5 94 yX5_in, .static yX5_in, .initialized RX5, .code yX5_in cX5_in 3 (some .boolean), .methodLink RX5 109 yX5_denied, .instanceMethod yX5_denied, .selects RX5 yX5_denied yX5_denied, .code yX5_denied cX5_denied 2 (some .boolean), .fieldLink RX5 7 "MirrorTowerModel" "trouble" "I", .methodLink RX5 112 yX5_granted, .instanceMethod yX5_granted, .selects RX5 yX5_granted yX5_granted, .code yX5_granted cX5_granted 1 (some .boolean)] ++ wsX50)
def wsX5_wind : List Cond := .code yX5_wind cX5_wind 3 (some .boolean) :: ([.fieldLink RX5 1 "MirrorTowerModel" "thrown" "I", .fieldLink RX5 41 "MirrorTowerModel" "wind" "[I", .methodLink RX5 105 yX5_isHour, .static yX5_isHour, .initialized RX5, .code yX5_isHour cX5_isHour 1 (some .boolean), .methodLink RX5 94 yX5_in, .static yX5_in, .code yX5_in cX5_in 3 (some .boolean), .methodLink RX5 109 yX5_denied, .instanceMethod yX5_denied, .selects RX5 yX5_denied yX5_denied, .code yX5_denied cX5_denied 2 (some .boolean), .fieldLink RX5 7 "MirrorTowerModel" "trouble" "I", .methodLink RX5 112 yX5_granted, .instanceMethod yX5_granted, .selects RX5 yX5_granted yX5_granted, .code yX5_granted cX5_granted 1 (some .boolean)] ++ wsX50)
def wsX5_price : List Cond := .code yX5_price cX5_price 3 (some .boolean) :: ([.fieldLink RX5 1 "MirrorTowerModel" "thrown" "I", .fieldLink RX5 44 "MirrorTowerModel" "price" "[I", .methodLink RX5 105 yX5_isHour, .static yX5_isHour, .initialized RX5, .code yX5_isHour cX5_isHour 1 (some .boolean), .methodLink RX5 94 yX5_in, .static yX5_in, .code yX5_in cX5_in 3 (some .boolean), .methodLink RX5 109 yX5_denied, .instanceMethod yX5_denied, .selects RX5 yX5_denied yX5_denied, .code yX5_denied cX5_denied 2 (some .boolean), .fieldLink RX5 7 "MirrorTowerModel" "trouble" "I", .methodLink RX5 112 yX5_granted, .instanceMethod yX5_granted, .selects RX5 yX5_granted yX5_granted, .code yX5_granted cX5_granted 1 (some .boolean)] ++ wsX50)
def wsX5_dust : List Cond := .code yX5_dust cX5_dust 2 (some .boolean) :: ([.fieldLink RX5 1 "MirrorTowerModel" "thrown" "I", .fieldLink RX5 16 "MirrorTowerModel" "dust" "I", .methodLink RX5 94 yX5_in, .static yX5_in, .initialized RX5, .code yX5_in cX5_in 3 (some .boolean), .methodLink RX5 109 yX5_denied, .instanceMethod yX5_denied, .selects RX5 yX5_denied yX5_denied, .code yX5_denied cX5_denied 2 (some .boolean), .fieldLink RX5 7 "MirrorTowerModel" "trouble" "I", .methodLink RX5 112 yX5_granted, .instanceMethod yX5_granted, .selects RX5 yX5_granted yX5_granted, .code yX5_granted cX5_granted 1 (some .boolean)] ++ wsX50)
def wsX5_shades : List Cond := .code yX5_shades cX5_shades 6 (some .int) :: ([.fieldLink RX5 38 "MirrorTowerModel" "height" "[I", .fieldLink RX5 91 "MirrorTowerModel" "mirrors" "I", .fieldLink RX5 19 "MirrorTowerModel" "x" "[I", .fieldLink RX5 32 "MirrorTowerModel" "sunX" "[I", .fieldLink RX5 23 "MirrorTowerModel" "y" "[I", .fieldLink RX5 35 "MirrorTowerModel" "sunY" "[I"] ++ wsX50)
def wsX5_blocks : List Cond := .code yX5_blocks cX5_blocks 9 (some .int) :: ([.fieldLink RX5 19 "MirrorTowerModel" "x" "[I", .fieldLink RX5 23 "MirrorTowerModel" "y" "[I", .fieldLink RX5 91 "MirrorTowerModel" "mirrors" "I"] ++ wsX50)
def wsX5_shaded : List Cond := .code yX5_shaded cX5_shaded 4 (some .int) :: ([.fieldLink RX5 1 "MirrorTowerModel" "thrown" "I", .methodLink RX5 116 yX5_isMirror, .instanceMethod yX5_isMirror, .selects RX5 yX5_isMirror yX5_isMirror, .initialized RX5, .code yX5_isMirror cX5_isMirror 2 (some .boolean), .fieldLink RX5 91 "MirrorTowerModel" "mirrors" "I", .methodLink RX5 105 yX5_isHour, .static yX5_isHour, .code yX5_isHour cX5_isHour 1 (some .boolean), .methodLink RX5 119 yX5_blocks, .instanceMethod yX5_blocks, .selects RX5 yX5_blocks yX5_blocks, .code yX5_blocks cX5_blocks 9 (some .int), .fieldLink RX5 19 "MirrorTowerModel" "x" "[I", .fieldLink RX5 23 "MirrorTowerModel" "y" "[I", .methodLink RX5 122 yX5_shades, .instanceMethod yX5_shades, .selects RX5 yX5_shades yX5_shades, .code yX5_shades cX5_shades 6 (some .int), .fieldLink RX5 38 "MirrorTowerModel" "height" "[I", .fieldLink RX5 32 "MirrorTowerModel" "sunX" "[I", .fieldLink RX5 35 "MirrorTowerModel" "sunY" "[I"] ++ wsX50)
def wsX5_isStowed : List Cond := .code yX5_isStowed cX5_isStowed 2 (some .boolean) :: ([.fieldLink RX5 41 "MirrorTowerModel" "wind" "[I"] ++ wsX50)
def wsX5_powerOf_r1 : List Cond := [Cond.fieldLink RX5 38 "MirrorTowerModel" "height" "[I", Cond.fieldLink RX5 26 "MirrorTowerModel" "soil" "[I", Cond.methodLink RX5 129 Lib.Math.min.name, Cond.static Lib.Math.min.name, Cond.initialized "java/lang/Math", Cond.code Lib.Math.min.name Lib.Math.min.code 2 (some .int), Cond.methodLink RX5 134 Lib.Math.max.name, Cond.static Lib.Math.max.name, Cond.code Lib.Math.max.name Lib.Math.max.code 2 (some .int), Cond.methodLink RX5 126 yX5_isStowed, Cond.instanceMethod yX5_isStowed, Cond.selects RX5 yX5_isStowed yX5_isStowed, Cond.initialized RX5, Cond.code yX5_isStowed cX5_isStowed 2 (some .boolean), Cond.fieldLink RX5 41 "MirrorTowerModel" "wind" "[I", Cond.methodLink RX5 122 yX5_shades, Cond.instanceMethod yX5_shades, Cond.selects RX5 yX5_shades yX5_shades, Cond.code yX5_shades cX5_shades 6 (some .int), Cond.fieldLink RX5 91 "MirrorTowerModel" "mirrors" "I", Cond.fieldLink RX5 19 "MirrorTowerModel" "x" "[I", Cond.fieldLink RX5 32 "MirrorTowerModel" "sunX" "[I", Cond.fieldLink RX5 23 "MirrorTowerModel" "y" "[I", Cond.fieldLink RX5 35 "MirrorTowerModel" "sunY" "[I"]
def wsX5_powerOf_r2 : List Cond := [Cond.methodLink RX5 119 yX5_blocks, Cond.instanceMethod yX5_blocks, Cond.selects RX5 yX5_blocks yX5_blocks, Cond.code yX5_blocks cX5_blocks 9 (some .int)]
def wsX5_powerOf : List Cond := .code yX5_powerOf cX5_powerOf 6 (some .int) :: ((wsX5_powerOf_r1 ++ wsX5_powerOf_r2) ++ wsX50)
def wsX5_power_r1 : List Cond := [Cond.fieldLink RX5 1 "MirrorTowerModel" "thrown" "I", Cond.methodLink RX5 116 yX5_isMirror, Cond.instanceMethod yX5_isMirror, Cond.selects RX5 yX5_isMirror yX5_isMirror, Cond.initialized RX5, Cond.code yX5_isMirror cX5_isMirror 2 (some .boolean), Cond.fieldLink RX5 91 "MirrorTowerModel" "mirrors" "I", Cond.methodLink RX5 105 yX5_isHour, Cond.static yX5_isHour, Cond.code yX5_isHour cX5_isHour 1 (some .boolean), Cond.methodLink RX5 137 yX5_powerOf, Cond.instanceMethod yX5_powerOf, Cond.selects RX5 yX5_powerOf yX5_powerOf, Cond.code yX5_powerOf cX5_powerOf 6 (some .int), Cond.fieldLink RX5 38 "MirrorTowerModel" "height" "[I", Cond.fieldLink RX5 26 "MirrorTowerModel" "soil" "[I", Cond.methodLink RX5 129 Lib.Math.min.name, Cond.static Lib.Math.min.name, Cond.initialized "java/lang/Math", Cond.code Lib.Math.min.name Lib.Math.min.code 2 (some .int), Cond.methodLink RX5 134 Lib.Math.max.name, Cond.static Lib.Math.max.name, Cond.code Lib.Math.max.name Lib.Math.max.code 2 (some .int), Cond.methodLink RX5 126 yX5_isStowed]
def wsX5_power_r2 : List Cond := [Cond.instanceMethod yX5_isStowed, Cond.selects RX5 yX5_isStowed yX5_isStowed, Cond.code yX5_isStowed cX5_isStowed 2 (some .boolean), Cond.fieldLink RX5 41 "MirrorTowerModel" "wind" "[I", Cond.methodLink RX5 122 yX5_shades, Cond.instanceMethod yX5_shades, Cond.selects RX5 yX5_shades yX5_shades, Cond.code yX5_shades cX5_shades 6 (some .int), Cond.fieldLink RX5 19 "MirrorTowerModel" "x" "[I", Cond.fieldLink RX5 32 "MirrorTowerModel" "sunX" "[I", Cond.fieldLink RX5 23 "MirrorTowerModel" "y" "[I", Cond.fieldLink RX5 35 "MirrorTowerModel" "sunY" "[I", Cond.methodLink RX5 119 yX5_blocks, Cond.instanceMethod yX5_blocks, Cond.selects RX5 yX5_blocks yX5_blocks, Cond.code yX5_blocks cX5_blocks 9 (some .int)]
def wsX5_power : List Cond := .code yX5_power cX5_power 3 (some .int) :: ((wsX5_power_r1 ++ wsX5_power_r2) ++ wsX50)
def wsX5_stowed : List Cond := .code yX5_stowed cX5_stowed 2 (some .int) :: ([.fieldLink RX5 1 "MirrorTowerModel" "thrown" "I", .methodLink RX5 105 yX5_isHour, .static yX5_isHour, .initialized RX5, .code yX5_isHour cX5_isHour 1 (some .boolean), .methodLink RX5 126 yX5_isStowed, .instanceMethod yX5_isStowed, .selects RX5 yX5_isStowed yX5_isStowed, .code yX5_isStowed cX5_isStowed 2 (some .boolean), .fieldLink RX5 41 "MirrorTowerModel" "wind" "[I"] ++ wsX50)
def wsX5_soil : List Cond := .code yX5_soil cX5_soil 2 (some .int) :: ([.fieldLink RX5 1 "MirrorTowerModel" "thrown" "I", .fieldLink RX5 26 "MirrorTowerModel" "soil" "[I", .methodLink RX5 116 yX5_isMirror, .instanceMethod yX5_isMirror, .selects RX5 yX5_isMirror yX5_isMirror, .initialized RX5, .code yX5_isMirror cX5_isMirror 2 (some .boolean), .fieldLink RX5 91 "MirrorTowerModel" "mirrors" "I"] ++ wsX50)
def wsX5_wash : List Cond := .code yX5_wash cX5_wash 6 (some .int) :: ([.fieldLink RX5 1 "MirrorTowerModel" "thrown" "I", .fieldLink RX5 91 "MirrorTowerModel" "mirrors" "I", .fieldLink RX5 26 "MirrorTowerModel" "soil" "[I", .methodLink RX5 94 yX5_in, .static yX5_in, .initialized RX5, .code yX5_in cX5_in 3 (some .boolean), .methodLink RX5 98 yX5_refused, .instanceMethod yX5_refused, .selects RX5 yX5_refused yX5_refused, .code yX5_refused cX5_refused 2 (some .int), .fieldLink RX5 7 "MirrorTowerModel" "trouble" "I", .methodLink RX5 102 yX5_done, .instanceMethod yX5_done, .selects RX5 yX5_done yX5_done, .code yX5_done cX5_done 2 (some .int)] ++ wsX50)
def wsX5_orders_r1 : List Cond := [Cond.fieldLink RX5 91 "MirrorTowerModel" "mirrors" "I", Cond.fieldLink RX5 50 "MirrorTowerModel" "power" "[I", Cond.fieldLink RX5 47 "MirrorTowerModel" "order" "[I", Cond.methodLink RX5 137 yX5_powerOf, Cond.instanceMethod yX5_powerOf, Cond.selects RX5 yX5_powerOf yX5_powerOf, Cond.initialized RX5, Cond.code yX5_powerOf cX5_powerOf 6 (some .int), Cond.fieldLink RX5 38 "MirrorTowerModel" "height" "[I", Cond.fieldLink RX5 26 "MirrorTowerModel" "soil" "[I", Cond.methodLink RX5 129 Lib.Math.min.name, Cond.static Lib.Math.min.name, Cond.initialized "java/lang/Math", Cond.code Lib.Math.min.name Lib.Math.min.code 2 (some .int), Cond.methodLink RX5 134 Lib.Math.max.name, Cond.static Lib.Math.max.name, Cond.code Lib.Math.max.name Lib.Math.max.code 2 (some .int), Cond.methodLink RX5 126 yX5_isStowed, Cond.instanceMethod yX5_isStowed, Cond.selects RX5 yX5_isStowed yX5_isStowed, Cond.code yX5_isStowed cX5_isStowed 2 (some .boolean), Cond.fieldLink RX5 41 "MirrorTowerModel" "wind" "[I", Cond.methodLink RX5 122 yX5_shades, Cond.instanceMethod yX5_shades]
def wsX5_orders_r2 : List Cond := [Cond.selects RX5 yX5_shades yX5_shades, Cond.code yX5_shades cX5_shades 6 (some .int), Cond.fieldLink RX5 19 "MirrorTowerModel" "x" "[I", Cond.fieldLink RX5 32 "MirrorTowerModel" "sunX" "[I", Cond.fieldLink RX5 23 "MirrorTowerModel" "y" "[I", Cond.fieldLink RX5 35 "MirrorTowerModel" "sunY" "[I", Cond.methodLink RX5 119 yX5_blocks, Cond.instanceMethod yX5_blocks, Cond.selects RX5 yX5_blocks yX5_blocks, Cond.code yX5_blocks cX5_blocks 9 (some .int)]
def wsX5_orders : List Cond := .code yX5_orders cX5_orders 5 none :: ((wsX5_orders_r1 ++ wsX5_orders_r2) ++ wsX50)
def wsX5_aims_r1 : List Cond := [Cond.fieldLink RX5 53 "MirrorTowerModel" "left" "[I", Cond.fieldLink RX5 29 "MirrorTowerModel" "limit" "[I", Cond.fieldLink RX5 91 "MirrorTowerModel" "mirrors" "I", Cond.fieldLink RX5 47 "MirrorTowerModel" "order" "[I", Cond.fieldLink RX5 59 "MirrorTowerModel" "at" "[I", Cond.fieldLink RX5 50 "MirrorTowerModel" "power" "[I", Cond.methodLink RX5 141 yX5_orders, Cond.instanceMethod yX5_orders, Cond.selects RX5 yX5_orders yX5_orders, Cond.initialized RX5, Cond.code yX5_orders cX5_orders 5 none, Cond.methodLink RX5 137 yX5_powerOf, Cond.instanceMethod yX5_powerOf, Cond.selects RX5 yX5_powerOf yX5_powerOf, Cond.code yX5_powerOf cX5_powerOf 6 (some .int), Cond.fieldLink RX5 38 "MirrorTowerModel" "height" "[I", Cond.fieldLink RX5 26 "MirrorTowerModel" "soil" "[I", Cond.methodLink RX5 129 Lib.Math.min.name, Cond.static Lib.Math.min.name, Cond.initialized "java/lang/Math", Cond.code Lib.Math.min.name Lib.Math.min.code 2 (some .int), Cond.methodLink RX5 134 Lib.Math.max.name, Cond.static Lib.Math.max.name, Cond.code Lib.Math.max.name Lib.Math.max.code 2 (some .int)]
def wsX5_aims_r2 : List Cond := [Cond.methodLink RX5 126 yX5_isStowed, Cond.instanceMethod yX5_isStowed, Cond.selects RX5 yX5_isStowed yX5_isStowed, Cond.code yX5_isStowed cX5_isStowed 2 (some .boolean), Cond.fieldLink RX5 41 "MirrorTowerModel" "wind" "[I", Cond.methodLink RX5 122 yX5_shades, Cond.instanceMethod yX5_shades, Cond.selects RX5 yX5_shades yX5_shades, Cond.code yX5_shades cX5_shades 6 (some .int), Cond.fieldLink RX5 19 "MirrorTowerModel" "x" "[I", Cond.fieldLink RX5 32 "MirrorTowerModel" "sunX" "[I", Cond.fieldLink RX5 23 "MirrorTowerModel" "y" "[I", Cond.fieldLink RX5 35 "MirrorTowerModel" "sunY" "[I", Cond.methodLink RX5 119 yX5_blocks, Cond.instanceMethod yX5_blocks, Cond.selects RX5 yX5_blocks yX5_blocks, Cond.code yX5_blocks cX5_blocks 9 (some .int)]
def wsX5_aims : List Cond := .code yX5_aims cX5_aims 8 (some .int) :: ((wsX5_aims_r1 ++ wsX5_aims_r2) ++ wsX50)
def wsX5_aim_r1 : List Cond := [Cond.fieldLink RX5 1 "MirrorTowerModel" "thrown" "I", Cond.fieldLink RX5 91 "MirrorTowerModel" "mirrors" "I", Cond.fieldLink RX5 65 "MirrorTowerModel" "aimedMirrors" "I", Cond.fieldLink RX5 56 "MirrorTowerModel" "aimed" "[I", Cond.fieldLink RX5 59 "MirrorTowerModel" "at" "[I", Cond.fieldLink RX5 62 "MirrorTowerModel" "atFace" "[I", Cond.fieldLink RX5 29 "MirrorTowerModel" "limit" "[I", Cond.fieldLink RX5 53 "MirrorTowerModel" "left" "[I", Cond.methodLink RX5 105 yX5_isHour, Cond.static yX5_isHour, Cond.initialized RX5, Cond.code yX5_isHour cX5_isHour 1 (some .boolean), Cond.methodLink RX5 98 yX5_refused, Cond.instanceMethod yX5_refused, Cond.selects RX5 yX5_refused yX5_refused, Cond.code yX5_refused cX5_refused 2 (some .int), Cond.fieldLink RX5 7 "MirrorTowerModel" "trouble" "I", Cond.methodLink RX5 145 yX5_aims, Cond.instanceMethod yX5_aims, Cond.selects RX5 yX5_aims yX5_aims, Cond.code yX5_aims cX5_aims 8 (some .int), Cond.fieldLink RX5 47 "MirrorTowerModel" "order" "[I", Cond.fieldLink RX5 50 "MirrorTowerModel" "power" "[I", Cond.methodLink RX5 141 yX5_orders]
def wsX5_aim_r2 : List Cond := [Cond.instanceMethod yX5_orders, Cond.selects RX5 yX5_orders yX5_orders, Cond.code yX5_orders cX5_orders 5 none, Cond.methodLink RX5 137 yX5_powerOf, Cond.instanceMethod yX5_powerOf, Cond.selects RX5 yX5_powerOf yX5_powerOf, Cond.code yX5_powerOf cX5_powerOf 6 (some .int), Cond.fieldLink RX5 38 "MirrorTowerModel" "height" "[I", Cond.fieldLink RX5 26 "MirrorTowerModel" "soil" "[I", Cond.methodLink RX5 129 Lib.Math.min.name, Cond.static Lib.Math.min.name, Cond.initialized "java/lang/Math", Cond.code Lib.Math.min.name Lib.Math.min.code 2 (some .int), Cond.methodLink RX5 134 Lib.Math.max.name, Cond.static Lib.Math.max.name, Cond.code Lib.Math.max.name Lib.Math.max.code 2 (some .int), Cond.methodLink RX5 126 yX5_isStowed, Cond.instanceMethod yX5_isStowed, Cond.selects RX5 yX5_isStowed yX5_isStowed, Cond.code yX5_isStowed cX5_isStowed 2 (some .boolean), Cond.fieldLink RX5 41 "MirrorTowerModel" "wind" "[I", Cond.methodLink RX5 122 yX5_shades, Cond.instanceMethod yX5_shades, Cond.selects RX5 yX5_shades yX5_shades]
def wsX5_aim_r3 : List Cond := [Cond.code yX5_shades cX5_shades 6 (some .int), Cond.fieldLink RX5 19 "MirrorTowerModel" "x" "[I", Cond.fieldLink RX5 32 "MirrorTowerModel" "sunX" "[I", Cond.fieldLink RX5 23 "MirrorTowerModel" "y" "[I", Cond.fieldLink RX5 35 "MirrorTowerModel" "sunY" "[I", Cond.methodLink RX5 119 yX5_blocks, Cond.instanceMethod yX5_blocks, Cond.selects RX5 yX5_blocks yX5_blocks, Cond.code yX5_blocks cX5_blocks 9 (some .int), Cond.methodLink RX5 102 yX5_done, Cond.instanceMethod yX5_done, Cond.selects RX5 yX5_done yX5_done, Cond.code yX5_done cX5_done 2 (some .int)]
def wsX5_aim : List Cond := .code yX5_aim cX5_aim 4 (some .int) :: ((wsX5_aim_r1 ++ (wsX5_aim_r2 ++ wsX5_aim_r3)) ++ wsX50)
def wsX5_aimed : List Cond := .code yX5_aimed cX5_aimed 2 (some .int) :: ([.fieldLink RX5 1 "MirrorTowerModel" "thrown" "I", .fieldLink RX5 65 "MirrorTowerModel" "aimedMirrors" "I", .fieldLink RX5 56 "MirrorTowerModel" "aimed" "[I"] ++ wsX50)
def wsX5_face : List Cond := .code yX5_face cX5_face 2 (some .int) :: ([.fieldLink RX5 1 "MirrorTowerModel" "thrown" "I", .fieldLink RX5 62 "MirrorTowerModel" "atFace" "[I", .methodLink RX5 94 yX5_in, .static yX5_in, .initialized RX5, .code yX5_in cX5_in 3 (some .boolean)] ++ wsX50)
def wsX5_tries : List Cond := .code yX5_tries cX5_tries 5 none :: ([.fieldLink RX5 91 "MirrorTowerModel" "mirrors" "I", .fieldLink RX5 148 "MirrorTowerModel" "most" "I", .methodLink RX5 134 Lib.Math.max.name, .static Lib.Math.max.name, .initialized "java/lang/Math", .code Lib.Math.max.name Lib.Math.max.code 2 (some .int), .fieldLink RX5 50 "MirrorTowerModel" "power" "[I", .fieldLink RX5 47 "MirrorTowerModel" "order" "[I", .fieldLink RX5 53 "MirrorTowerModel" "left" "[I", .methodLink RX5 151 yX5_tries, .instanceMethod yX5_tries, .selects RX5 yX5_tries yX5_tries, .initialized RX5] ++ wsX50)
def wsX5_best_r1 : List Cond := [Cond.fieldLink RX5 1 "MirrorTowerModel" "thrown" "I", Cond.fieldLink RX5 53 "MirrorTowerModel" "left" "[I", Cond.fieldLink RX5 29 "MirrorTowerModel" "limit" "[I", Cond.fieldLink RX5 148 "MirrorTowerModel" "most" "I", Cond.methodLink RX5 105 yX5_isHour, Cond.static yX5_isHour, Cond.initialized RX5, Cond.code yX5_isHour cX5_isHour 1 (some .boolean), Cond.methodLink RX5 98 yX5_refused, Cond.instanceMethod yX5_refused, Cond.selects RX5 yX5_refused yX5_refused, Cond.code yX5_refused cX5_refused 2 (some .int), Cond.fieldLink RX5 7 "MirrorTowerModel" "trouble" "I", Cond.methodLink RX5 141 yX5_orders, Cond.instanceMethod yX5_orders, Cond.selects RX5 yX5_orders yX5_orders, Cond.code yX5_orders cX5_orders 5 none, Cond.fieldLink RX5 91 "MirrorTowerModel" "mirrors" "I", Cond.fieldLink RX5 50 "MirrorTowerModel" "power" "[I", Cond.fieldLink RX5 47 "MirrorTowerModel" "order" "[I", Cond.methodLink RX5 137 yX5_powerOf, Cond.instanceMethod yX5_powerOf, Cond.selects RX5 yX5_powerOf yX5_powerOf, Cond.code yX5_powerOf cX5_powerOf 6 (some .int)]
def wsX5_best_r2 : List Cond := [Cond.fieldLink RX5 38 "MirrorTowerModel" "height" "[I", Cond.fieldLink RX5 26 "MirrorTowerModel" "soil" "[I", Cond.methodLink RX5 129 Lib.Math.min.name, Cond.static Lib.Math.min.name, Cond.initialized "java/lang/Math", Cond.code Lib.Math.min.name Lib.Math.min.code 2 (some .int), Cond.methodLink RX5 134 Lib.Math.max.name, Cond.static Lib.Math.max.name, Cond.code Lib.Math.max.name Lib.Math.max.code 2 (some .int), Cond.methodLink RX5 126 yX5_isStowed, Cond.instanceMethod yX5_isStowed, Cond.selects RX5 yX5_isStowed yX5_isStowed, Cond.code yX5_isStowed cX5_isStowed 2 (some .boolean), Cond.fieldLink RX5 41 "MirrorTowerModel" "wind" "[I", Cond.methodLink RX5 122 yX5_shades, Cond.instanceMethod yX5_shades, Cond.selects RX5 yX5_shades yX5_shades, Cond.code yX5_shades cX5_shades 6 (some .int), Cond.fieldLink RX5 19 "MirrorTowerModel" "x" "[I", Cond.fieldLink RX5 32 "MirrorTowerModel" "sunX" "[I", Cond.fieldLink RX5 23 "MirrorTowerModel" "y" "[I", Cond.fieldLink RX5 35 "MirrorTowerModel" "sunY" "[I", Cond.methodLink RX5 119 yX5_blocks, Cond.instanceMethod yX5_blocks]
def wsX5_best_r3 : List Cond := [Cond.selects RX5 yX5_blocks yX5_blocks, Cond.code yX5_blocks cX5_blocks 9 (some .int), Cond.methodLink RX5 151 yX5_tries, Cond.instanceMethod yX5_tries, Cond.selects RX5 yX5_tries yX5_tries, Cond.code yX5_tries cX5_tries 5 none, Cond.methodLink RX5 102 yX5_done, Cond.instanceMethod yX5_done, Cond.selects RX5 yX5_done yX5_done, Cond.code yX5_done cX5_done 2 (some .int)]
def wsX5_best : List Cond := .code yX5_best cX5_best 3 (some .int) :: ((wsX5_best_r1 ++ (wsX5_best_r2 ++ wsX5_best_r3)) ++ wsX50)
def wsX5_comes_r1 : List Cond := [Cond.fieldLink RX5 1 "MirrorTowerModel" "thrown" "I", Cond.fieldLink RX5 154 "MirrorTowerModel" "now" "I", Cond.fieldLink RX5 16 "MirrorTowerModel" "dust" "I", Cond.methodLink RX5 94 yX5_in, Cond.static yX5_in, Cond.initialized RX5, Cond.code yX5_in cX5_in 3 (some .boolean), Cond.methodLink RX5 145 yX5_aims, Cond.instanceMethod yX5_aims, Cond.selects RX5 yX5_aims yX5_aims, Cond.code yX5_aims cX5_aims 8 (some .int), Cond.fieldLink RX5 53 "MirrorTowerModel" "left" "[I", Cond.fieldLink RX5 29 "MirrorTowerModel" "limit" "[I", Cond.fieldLink RX5 91 "MirrorTowerModel" "mirrors" "I", Cond.fieldLink RX5 47 "MirrorTowerModel" "order" "[I", Cond.fieldLink RX5 59 "MirrorTowerModel" "at" "[I", Cond.fieldLink RX5 50 "MirrorTowerModel" "power" "[I", Cond.methodLink RX5 141 yX5_orders, Cond.instanceMethod yX5_orders, Cond.selects RX5 yX5_orders yX5_orders, Cond.code yX5_orders cX5_orders 5 none, Cond.methodLink RX5 137 yX5_powerOf, Cond.instanceMethod yX5_powerOf, Cond.selects RX5 yX5_powerOf yX5_powerOf]
def wsX5_comes_r2 : List Cond := [Cond.code yX5_powerOf cX5_powerOf 6 (some .int), Cond.fieldLink RX5 38 "MirrorTowerModel" "height" "[I", Cond.fieldLink RX5 26 "MirrorTowerModel" "soil" "[I", Cond.methodLink RX5 129 Lib.Math.min.name, Cond.static Lib.Math.min.name, Cond.initialized "java/lang/Math", Cond.code Lib.Math.min.name Lib.Math.min.code 2 (some .int), Cond.methodLink RX5 134 Lib.Math.max.name, Cond.static Lib.Math.max.name, Cond.code Lib.Math.max.name Lib.Math.max.code 2 (some .int), Cond.methodLink RX5 126 yX5_isStowed, Cond.instanceMethod yX5_isStowed, Cond.selects RX5 yX5_isStowed yX5_isStowed, Cond.code yX5_isStowed cX5_isStowed 2 (some .boolean), Cond.fieldLink RX5 41 "MirrorTowerModel" "wind" "[I", Cond.methodLink RX5 122 yX5_shades, Cond.instanceMethod yX5_shades, Cond.selects RX5 yX5_shades yX5_shades, Cond.code yX5_shades cX5_shades 6 (some .int), Cond.fieldLink RX5 19 "MirrorTowerModel" "x" "[I", Cond.fieldLink RX5 32 "MirrorTowerModel" "sunX" "[I", Cond.fieldLink RX5 23 "MirrorTowerModel" "y" "[I", Cond.fieldLink RX5 35 "MirrorTowerModel" "sunY" "[I", Cond.methodLink RX5 119 yX5_blocks]
def wsX5_comes_r3 : List Cond := [Cond.instanceMethod yX5_blocks, Cond.selects RX5 yX5_blocks yX5_blocks, Cond.code yX5_blocks cX5_blocks 9 (some .int)]
def wsX5_comes : List Cond := .code yX5_comes cX5_comes 2 (some .int) :: ((wsX5_comes_r1 ++ (wsX5_comes_r2 ++ wsX5_comes_r3)) ++ wsX50)
def wsX5_state : List Cond := .code yX5_state cX5_state 3 (some .int) :: ([])
def wsX5_takes : List Cond := .code yX5_takes cX5_takes 1 (some .int) :: ([])
def wsX5_filled : List Cond := .code yX5_filled cX5_filled 2 (some .int) :: ([.methodLink RX5 129 Lib.Math.min.name, .static Lib.Math.min.name, .initialized "java/lang/Math", .code Lib.Math.min.name Lib.Math.min.code 2 (some .int)])
def wsX5_plan_r1 : List Cond := [Cond.fieldLink RX5 1 "MirrorTowerModel" "thrown" "I", Cond.fieldLink RX5 78 "MirrorTowerModel" "comeUnits" "[I", Cond.fieldLink RX5 154 "MirrorTowerModel" "now" "I", Cond.fieldLink RX5 16 "MirrorTowerModel" "dust" "I", Cond.fieldLink RX5 68 "MirrorTowerModel" "worth" "[I", Cond.fieldLink RX5 44 "MirrorTowerModel" "price" "[I", Cond.methodLink RX5 134 Lib.Math.max.name, Cond.static Lib.Math.max.name, Cond.initialized "java/lang/Math", Cond.code Lib.Math.max.name Lib.Math.max.code 2 (some .int), Cond.fieldLink RX5 75 "MirrorTowerModel" "planFrom" "I", Cond.fieldLink RX5 168 "MirrorTowerModel" "store" "I", Cond.fieldLink RX5 171 "MirrorTowerModel" "isWarm" "Z", Cond.fieldLink RX5 71 "MirrorTowerModel" "isRun" "[Z", Cond.methodLink RX5 145 yX5_aims, Cond.instanceMethod yX5_aims, Cond.selects RX5 yX5_aims yX5_aims, Cond.initialized RX5, Cond.code yX5_aims cX5_aims 8 (some .int), Cond.fieldLink RX5 53 "MirrorTowerModel" "left" "[I", Cond.fieldLink RX5 29 "MirrorTowerModel" "limit" "[I", Cond.fieldLink RX5 91 "MirrorTowerModel" "mirrors" "I", Cond.fieldLink RX5 47 "MirrorTowerModel" "order" "[I", Cond.fieldLink RX5 59 "MirrorTowerModel" "at" "[I"]
def wsX5_plan_r2 : List Cond := [Cond.fieldLink RX5 50 "MirrorTowerModel" "power" "[I", Cond.methodLink RX5 141 yX5_orders, Cond.instanceMethod yX5_orders, Cond.selects RX5 yX5_orders yX5_orders, Cond.code yX5_orders cX5_orders 5 none, Cond.methodLink RX5 137 yX5_powerOf, Cond.instanceMethod yX5_powerOf, Cond.selects RX5 yX5_powerOf yX5_powerOf, Cond.code yX5_powerOf cX5_powerOf 6 (some .int), Cond.fieldLink RX5 38 "MirrorTowerModel" "height" "[I", Cond.fieldLink RX5 26 "MirrorTowerModel" "soil" "[I", Cond.methodLink RX5 129 Lib.Math.min.name, Cond.static Lib.Math.min.name, Cond.code Lib.Math.min.name Lib.Math.min.code 2 (some .int), Cond.methodLink RX5 126 yX5_isStowed, Cond.instanceMethod yX5_isStowed, Cond.selects RX5 yX5_isStowed yX5_isStowed, Cond.code yX5_isStowed cX5_isStowed 2 (some .boolean), Cond.fieldLink RX5 41 "MirrorTowerModel" "wind" "[I", Cond.methodLink RX5 122 yX5_shades, Cond.instanceMethod yX5_shades, Cond.selects RX5 yX5_shades yX5_shades, Cond.code yX5_shades cX5_shades 6 (some .int), Cond.fieldLink RX5 19 "MirrorTowerModel" "x" "[I"]
def wsX5_plan_r3 : List Cond := [Cond.fieldLink RX5 32 "MirrorTowerModel" "sunX" "[I", Cond.fieldLink RX5 23 "MirrorTowerModel" "y" "[I", Cond.fieldLink RX5 35 "MirrorTowerModel" "sunY" "[I", Cond.methodLink RX5 119 yX5_blocks, Cond.instanceMethod yX5_blocks, Cond.selects RX5 yX5_blocks yX5_blocks, Cond.code yX5_blocks cX5_blocks 9 (some .int), Cond.methodLink RX5 157 yX5_state, Cond.static yX5_state, Cond.code yX5_state cX5_state 3 (some .int), Cond.methodLink RX5 161 yX5_filled, Cond.static yX5_filled, Cond.code yX5_filled cX5_filled 2 (some .int), Cond.methodLink RX5 164 yX5_takes, Cond.static yX5_takes, Cond.code yX5_takes cX5_takes 1 (some .int)]
def wsX5_plan : List Cond := .code yX5_plan cX5_plan 8 (some .int) :: ((wsX5_plan_r1 ++ (wsX5_plan_r2 ++ wsX5_plan_r3)) ++ wsX50)
def wsX5_runs : List Cond := .code yX5_runs cX5_runs 2 (some .int) :: ([.fieldLink RX5 1 "MirrorTowerModel" "thrown" "I", .fieldLink RX5 75 "MirrorTowerModel" "planFrom" "I", .fieldLink RX5 71 "MirrorTowerModel" "isRun" "[Z", .methodLink RX5 94 yX5_in, .static yX5_in, .initialized RX5, .code yX5_in cX5_in 3 (some .boolean)] ++ wsX50)
def wsX5_step_r1 : List Cond := [Cond.fieldLink RX5 1 "MirrorTowerModel" "thrown" "I", Cond.fieldLink RX5 168 "MirrorTowerModel" "store" "I", Cond.fieldLink RX5 154 "MirrorTowerModel" "now" "I", Cond.fieldLink RX5 171 "MirrorTowerModel" "isWarm" "Z", Cond.fieldLink RX5 44 "MirrorTowerModel" "price" "[I", Cond.fieldLink RX5 175 "MirrorTowerModel" "earned" "I", Cond.fieldLink RX5 91 "MirrorTowerModel" "mirrors" "I", Cond.fieldLink RX5 26 "MirrorTowerModel" "soil" "[I", Cond.fieldLink RX5 16 "MirrorTowerModel" "dust" "I", Cond.methodLink RX5 129 Lib.Math.min.name, Cond.static Lib.Math.min.name, Cond.initialized "java/lang/Math", Cond.code Lib.Math.min.name Lib.Math.min.code 2 (some .int), Cond.methodLink RX5 145 yX5_aims, Cond.instanceMethod yX5_aims, Cond.selects RX5 yX5_aims yX5_aims, Cond.initialized RX5, Cond.code yX5_aims cX5_aims 8 (some .int), Cond.fieldLink RX5 53 "MirrorTowerModel" "left" "[I", Cond.fieldLink RX5 29 "MirrorTowerModel" "limit" "[I", Cond.fieldLink RX5 47 "MirrorTowerModel" "order" "[I", Cond.fieldLink RX5 59 "MirrorTowerModel" "at" "[I", Cond.fieldLink RX5 50 "MirrorTowerModel" "power" "[I", Cond.methodLink RX5 141 yX5_orders]
def wsX5_step_r2 : List Cond := [Cond.instanceMethod yX5_orders, Cond.selects RX5 yX5_orders yX5_orders, Cond.code yX5_orders cX5_orders 5 none, Cond.methodLink RX5 137 yX5_powerOf, Cond.instanceMethod yX5_powerOf, Cond.selects RX5 yX5_powerOf yX5_powerOf, Cond.code yX5_powerOf cX5_powerOf 6 (some .int), Cond.fieldLink RX5 38 "MirrorTowerModel" "height" "[I", Cond.methodLink RX5 134 Lib.Math.max.name, Cond.static Lib.Math.max.name, Cond.code Lib.Math.max.name Lib.Math.max.code 2 (some .int), Cond.methodLink RX5 126 yX5_isStowed, Cond.instanceMethod yX5_isStowed, Cond.selects RX5 yX5_isStowed yX5_isStowed, Cond.code yX5_isStowed cX5_isStowed 2 (some .boolean), Cond.fieldLink RX5 41 "MirrorTowerModel" "wind" "[I", Cond.methodLink RX5 122 yX5_shades, Cond.instanceMethod yX5_shades, Cond.selects RX5 yX5_shades yX5_shades, Cond.code yX5_shades cX5_shades 6 (some .int), Cond.fieldLink RX5 19 "MirrorTowerModel" "x" "[I", Cond.fieldLink RX5 32 "MirrorTowerModel" "sunX" "[I", Cond.fieldLink RX5 23 "MirrorTowerModel" "y" "[I", Cond.fieldLink RX5 35 "MirrorTowerModel" "sunY" "[I"]
def wsX5_step_r3 : List Cond := [Cond.methodLink RX5 119 yX5_blocks, Cond.instanceMethod yX5_blocks, Cond.selects RX5 yX5_blocks yX5_blocks, Cond.code yX5_blocks cX5_blocks 9 (some .int), Cond.methodLink RX5 161 yX5_filled, Cond.static yX5_filled, Cond.code yX5_filled cX5_filled 2 (some .int), Cond.methodLink RX5 164 yX5_takes, Cond.static yX5_takes, Cond.code yX5_takes cX5_takes 1 (some .int), Cond.methodLink RX5 98 yX5_refused, Cond.instanceMethod yX5_refused, Cond.selects RX5 yX5_refused yX5_refused, Cond.code yX5_refused cX5_refused 2 (some .int), Cond.fieldLink RX5 7 "MirrorTowerModel" "trouble" "I", Cond.methodLink RX5 102 yX5_done, Cond.instanceMethod yX5_done, Cond.selects RX5 yX5_done yX5_done, Cond.code yX5_done cX5_done 2 (some .int)]
def wsX5_step : List Cond := .code yX5_step cX5_step 5 (some .int) :: ((wsX5_step_r1 ++ (wsX5_step_r2 ++ wsX5_step_r3)) ++ wsX50)
def wsX5_earned : List Cond := .code yX5_earned cX5_earned 1 (some .int) :: ([.fieldLink RX5 1 "MirrorTowerModel" "thrown" "I", .fieldLink RX5 175 "MirrorTowerModel" "earned" "I"] ++ wsX50)
def wsX5_bits : List Cond := .code yX5_bits cX5_bits 5 (some .int) :: ([])
def wsX5_shot : List Cond := .code yX5_shot cX5_shot 6 (some .int) :: ([.fieldLink RX5 1 "MirrorTowerModel" "thrown" "I", .constantLong RX5 178 (4294967295), .fieldLink RX5 91 "MirrorTowerModel" "mirrors" "I", .constantLong RX5 184 (-1), .fieldLink RX5 186 "MirrorTowerModel" "shots" "I", .fieldLink RX5 81 "MirrorTowerModel" "shot" "[J", .fieldLink RX5 85 "MirrorTowerModel" "hits" "[I", .methodLink RX5 180 yX5_bits, .static yX5_bits, .initialized RX5, .code yX5_bits cX5_bits 5 (some .int), .methodLink RX5 98 yX5_refused, .instanceMethod yX5_refused, .selects RX5 yX5_refused yX5_refused, .code yX5_refused cX5_refused 2 (some .int), .fieldLink RX5 7 "MirrorTowerModel" "trouble" "I", .methodLink RX5 102 yX5_done, .instanceMethod yX5_done, .selects RX5 yX5_done yX5_done, .code yX5_done cX5_done 2 (some .int)] ++ wsX50)
def wsX5_forget : List Cond := .code yX5_forget cX5_forget 2 (some .int) :: ([.fieldLink RX5 1 "MirrorTowerModel" "thrown" "I", .fieldLink RX5 186 "MirrorTowerModel" "shots" "I"] ++ wsX50)
def wsX5_agrees : List Cond := .code yX5_agrees cX5_agrees 5 (some .boolean) :: ([.fieldLink RX5 186 "MirrorTowerModel" "shots" "I", .fieldLink RX5 81 "MirrorTowerModel" "shot" "[J", .constantLong RX5 184 (-1), .fieldLink RX5 85 "MirrorTowerModel" "hits" "[I", .methodLink RX5 180 yX5_bits, .static yX5_bits, .initialized RX5, .code yX5_bits cX5_bits 5 (some .int)] ++ wsX50)
def wsX5_agreeing : List Cond := .code yX5_agreeing cX5_agreeing 4 (some .int) :: ([.fieldLink RX5 88 "MirrorTowerModel" "inSets" "[I", .fieldLink RX5 91 "MirrorTowerModel" "mirrors" "I", .methodLink RX5 189 yX5_agrees, .instanceMethod yX5_agrees, .selects RX5 yX5_agrees yX5_agrees, .initialized RX5, .code yX5_agrees cX5_agrees 5 (some .boolean), .fieldLink RX5 186 "MirrorTowerModel" "shots" "I", .fieldLink RX5 81 "MirrorTowerModel" "shot" "[J", .constantLong RX5 184 (-1), .fieldLink RX5 85 "MirrorTowerModel" "hits" "[I", .methodLink RX5 180 yX5_bits, .static yX5_bits, .code yX5_bits cX5_bits 5 (some .int)] ++ wsX50)
def wsX5_agree : List Cond := .code yX5_agree cX5_agree 1 (some .int) :: ([.fieldLink RX5 1 "MirrorTowerModel" "thrown" "I", .methodLink RX5 193 yX5_agreeing, .instanceMethod yX5_agreeing, .selects RX5 yX5_agreeing yX5_agreeing, .initialized RX5, .code yX5_agreeing cX5_agreeing 4 (some .int), .fieldLink RX5 88 "MirrorTowerModel" "inSets" "[I", .fieldLink RX5 91 "MirrorTowerModel" "mirrors" "I", .methodLink RX5 189 yX5_agrees, .instanceMethod yX5_agrees, .selects RX5 yX5_agrees yX5_agrees, .code yX5_agrees cX5_agrees 5 (some .boolean), .fieldLink RX5 186 "MirrorTowerModel" "shots" "I", .fieldLink RX5 81 "MirrorTowerModel" "shot" "[J", .constantLong RX5 184 (-1), .fieldLink RX5 85 "MirrorTowerModel" "hits" "[I", .methodLink RX5 180 yX5_bits, .static yX5_bits, .code yX5_bits cX5_bits 5 (some .int)] ++ wsX50)
def wsX5_stuck : List Cond := .code yX5_stuck cX5_stuck 3 (some .int) :: ([.fieldLink RX5 1 "MirrorTowerModel" "thrown" "I", .fieldLink RX5 88 "MirrorTowerModel" "inSets" "[I", .methodLink RX5 116 yX5_isMirror, .instanceMethod yX5_isMirror, .selects RX5 yX5_isMirror yX5_isMirror, .initialized RX5, .code yX5_isMirror cX5_isMirror 2 (some .boolean), .fieldLink RX5 91 "MirrorTowerModel" "mirrors" "I", .methodLink RX5 193 yX5_agreeing, .instanceMethod yX5_agreeing, .selects RX5 yX5_agreeing yX5_agreeing, .code yX5_agreeing cX5_agreeing 4 (some .int), .methodLink RX5 189 yX5_agrees, .instanceMethod yX5_agrees, .selects RX5 yX5_agrees yX5_agrees, .code yX5_agrees cX5_agrees 5 (some .boolean), .fieldLink RX5 186 "MirrorTowerModel" "shots" "I", .fieldLink RX5 81 "MirrorTowerModel" "shot" "[J", .constantLong RX5 184 (-1), .fieldLink RX5 85 "MirrorTowerModel" "hits" "[I", .methodLink RX5 180 yX5_bits, .static yX5_bits, .code yX5_bits cX5_bits 5 (some .int)] ++ wsX50)
def wsX5_unsure : List Cond := .code yX5_unsure cX5_unsure 4 (some .int) :: ([.fieldLink RX5 1 "MirrorTowerModel" "thrown" "I", .fieldLink RX5 91 "MirrorTowerModel" "mirrors" "I", .fieldLink RX5 88 "MirrorTowerModel" "inSets" "[I", .methodLink RX5 193 yX5_agreeing, .instanceMethod yX5_agreeing, .selects RX5 yX5_agreeing yX5_agreeing, .initialized RX5, .code yX5_agreeing cX5_agreeing 4 (some .int), .methodLink RX5 189 yX5_agrees, .instanceMethod yX5_agrees, .selects RX5 yX5_agrees yX5_agrees, .code yX5_agrees cX5_agrees 5 (some .boolean), .fieldLink RX5 186 "MirrorTowerModel" "shots" "I", .fieldLink RX5 81 "MirrorTowerModel" "shot" "[J", .constantLong RX5 184 (-1), .fieldLink RX5 85 "MirrorTowerModel" "hits" "[I", .methodLink RX5 180 yX5_bits, .static yX5_bits, .code yX5_bits cX5_bits 5 (some .int)] ++ wsX50)
def wsX5_count : List Cond := .code yX5_count cX5_count 4 (some .int) :: ([.fieldLink RX5 1 "MirrorTowerModel" "thrown" "I", .fieldLink RX5 91 "MirrorTowerModel" "mirrors" "I", .fieldLink RX5 154 "MirrorTowerModel" "now" "I", .fieldLink RX5 168 "MirrorTowerModel" "store" "I", .fieldLink RX5 171 "MirrorTowerModel" "isWarm" "Z", .fieldLink RX5 186 "MirrorTowerModel" "shots" "I", .fieldLink RX5 26 "MirrorTowerModel" "soil" "[I"] ++ wsX50)
def wsX5_trouble : List Cond := .code yX5_trouble cX5_trouble 1 (some .int) :: ([.fieldLink RX5 1 "MirrorTowerModel" "thrown" "I", .fieldLink RX5 7 "MirrorTowerModel" "trouble" "I"] ++ wsX50)
def wsJ9_max_7cf53 : List Cond := .code yJ9_max_7cf53 cJ9_max_7cf53 2 (some .int) :: ([])
def wsJ9_min_7cf53 : List Cond := .code yJ9_min_7cf53 cJ9_min_7cf53 2 (some .int) :: ([])
def wsL_law_r1 : List Cond := [Cond.classLink RL 7 RX4, Cond.instantiable RX4 5, Cond.initialized RX4, Cond.classLink RL 10 RX5, Cond.instantiable RX5 33, Cond.initialized RX5, Cond.methodLink RL 9 yX4_init, Cond.instanceMethod yX4_init, Cond.code yX4_init cX4_init 1 none, Cond.methodLink RX4 1 objectInit, Cond.instanceMethod objectInit, Cond.code objectInit ⟨#[0xb1]⟩ 1 none, Cond.classLink RX4 7 RX1, Cond.instantiable RX1 11, Cond.initialized RX1, Cond.fieldLink RX4 10 "MirrorTower" "field" "LMirrorTower$Field;", Cond.classLink RX4 16 RX0, Cond.instantiable RX0 11, Cond.initialized RX0, Cond.fieldLink RX4 21 "MirrorTower" "cells" "LMirrorTower$Face;", Cond.classLink RX4 25 RX3, Cond.instantiable RX3 14, Cond.initialized RX3, Cond.fieldLink RX4 30 "MirrorTower" "store" "LMirrorTower$Store;"]
def wsL_law_r2 : List Cond := [Cond.classLink RX4 34 RX2, Cond.instantiable RX2 5, Cond.initialized RX2, Cond.fieldLink RX4 37 "MirrorTower" "shots" "LMirrorTower$Shots;", Cond.fieldLink RX4 41 "MirrorTower" "trouble" "I", Cond.methodLink RX4 9 yX1_init, Cond.instanceMethod yX1_init, Cond.code yX1_init cX1_init 1 none, Cond.methodLink RX1 3 objectInit, Cond.arrayClass .int, Cond.fieldLink RX1 9 "MirrorTower$Field" "taken" "[I", Cond.fieldLink RX1 15 "MirrorTower$Field" "xs" "[I", Cond.fieldLink RX1 18 "MirrorTower$Field" "ys" "[I", Cond.fieldLink RX1 21 "MirrorTower$Field" "blockers" "[I", Cond.fieldLink RX1 24 "MirrorTower$Field" "soils" "[I", Cond.fieldLink RX1 27 "MirrorTower$Field" "stepsX" "[I", Cond.fieldLink RX1 30 "MirrorTower$Field" "stepsY" "[I", Cond.fieldLink RX1 33 "MirrorTower$Field" "heights" "[I", Cond.fieldLink RX1 36 "MirrorTower$Field" "winds" "[I", Cond.fieldLink RX1 39 "MirrorTower$Field" "dustAnHour" "I", Cond.methodLink RX4 18 yX0_init, Cond.instanceMethod yX0_init, Cond.code yX0_init cX0_init 2 none, Cond.methodLink RX0 5 objectInit]
def wsL_law_r3 : List Cond := [Cond.fieldLink RX0 11 "MirrorTower$Face" "field" "LMirrorTower$Field;", Cond.fieldLink RX0 15 "MirrorTower$Face" "limits" "[I", Cond.fieldLink RX0 25 "MirrorTower$Face" "order" "[I", Cond.fieldLink RX0 28 "MirrorTower$Face" "powers" "[I", Cond.fieldLink RX0 31 "MirrorTower$Face" "cellOf" "[I", Cond.fieldLink RX0 34 "MirrorTower$Face" "left" "[I", Cond.fieldLink RX0 37 "MirrorTower$Face" "keptCells" "[I", Cond.fieldLink RX0 40 "MirrorTower$Face" "keptPowers" "[I", Cond.fieldLink RX0 43 "MirrorTower$Face" "setPowers" "[I", Cond.arrayClass .boolean, Cond.fieldLink RX0 46 "MirrorTower$Face" "fits" "[Z", Cond.methodLink RX0 19 yJ7_fill_53178, Cond.static yJ7_fill_53178, Cond.initialized RJ7, Cond.code yJ7_fill_53178 cJ7_fill_53178 4 none, Cond.methodLink RX4 27 yX3_init, Cond.instanceMethod yX3_init, Cond.code yX3_init cX3_init 3 none, Cond.methodLink RX3 3 objectInit, Cond.fieldLink RX3 9 "MirrorTower$Store" "field" "LMirrorTower$Field;", Cond.fieldLink RX3 15 "MirrorTower$Store" "cells" "LMirrorTower$Face;", Cond.fieldLink RX3 19 "MirrorTower$Store" "prices" "[I", Cond.fieldLink RX3 29 "MirrorTower$Store" "gains" "[I", Cond.fieldLink RX3 32 "MirrorTower$Store" "laterGains" "[I"]
def wsL_law_r4 : List Cond := [Cond.fieldLink RX3 35 "MirrorTower$Store" "choices" "[I", Cond.fieldLink RX3 38 "MirrorTower$Store" "unitsIn" "[I", Cond.fieldLink RX3 41 "MirrorTower$Store" "mostHeld" "[I", Cond.fieldLink RX3 44 "MirrorTower$Store" "plannedFrom" "I", Cond.methodLink RX3 23 yJ7_fill_53178, Cond.methodLink RX4 36 yX2_init, Cond.instanceMethod yX2_init, Cond.code yX2_init cX2_init 1 none, Cond.methodLink RX2 3 objectInit, Cond.fieldLink RX2 9 "MirrorTower$Shots" "marks" "[I", Cond.fieldLink RX2 15 "MirrorTower$Shots" "setsWith" "[I", Cond.methodLink RL 12 yX5_init, Cond.instanceMethod yX5_init, Cond.code yX5_init cX5_init 2 none, Cond.methodLink RX5 10 objectInit, Cond.fieldLink RX5 16 "MirrorTowerModel" "dust" "I", Cond.fieldLink RX5 19 "MirrorTowerModel" "x" "[I", Cond.fieldLink RX5 23 "MirrorTowerModel" "y" "[I", Cond.fieldLink RX5 26 "MirrorTowerModel" "soil" "[I", Cond.fieldLink RX5 29 "MirrorTowerModel" "limit" "[I", Cond.fieldLink RX5 32 "MirrorTowerModel" "sunX" "[I", Cond.fieldLink RX5 35 "MirrorTowerModel" "sunY" "[I", Cond.fieldLink RX5 38 "MirrorTowerModel" "height" "[I", Cond.fieldLink RX5 41 "MirrorTowerModel" "wind" "[I"]
def wsL_law_r5 : List Cond := [Cond.fieldLink RX5 44 "MirrorTowerModel" "price" "[I", Cond.fieldLink RX5 47 "MirrorTowerModel" "order" "[I", Cond.fieldLink RX5 50 "MirrorTowerModel" "power" "[I", Cond.fieldLink RX5 53 "MirrorTowerModel" "left" "[I", Cond.fieldLink RX5 56 "MirrorTowerModel" "aimed" "[I", Cond.fieldLink RX5 59 "MirrorTowerModel" "at" "[I", Cond.fieldLink RX5 62 "MirrorTowerModel" "atFace" "[I", Cond.fieldLink RX5 65 "MirrorTowerModel" "aimedMirrors" "I", Cond.fieldLink RX5 68 "MirrorTowerModel" "worth" "[I", Cond.fieldLink RX5 71 "MirrorTowerModel" "isRun" "[Z", Cond.fieldLink RX5 75 "MirrorTowerModel" "planFrom" "I", Cond.fieldLink RX5 78 "MirrorTowerModel" "comeUnits" "[I", Cond.arrayClass .long, Cond.fieldLink RX5 81 "MirrorTowerModel" "shot" "[J", Cond.fieldLink RX5 85 "MirrorTowerModel" "hits" "[I", Cond.fieldLink RX5 88 "MirrorTowerModel" "inSets" "[I", Cond.methodLink RL 13 yX4_mirror, Cond.instanceMethod yX4_mirror, Cond.selects RX4 yX4_mirror yX4_mirror, Cond.code yX4_mirror cX4_mirror 4 (some .int), Cond.methodLink RX4 45 yX4_isWithin, Cond.static yX4_isWithin, Cond.code yX4_isWithin cX4_isWithin 3 (some .boolean), Cond.methodLink RX4 49 yX4_refused]
def wsL_law_r6 : List Cond := [Cond.instanceMethod yX4_refused, Cond.selects RX4 yX4_refused yX4_refused, Cond.code yX4_refused cX4_refused 2 (some .int), Cond.methodLink RX4 53 yX1_isTaken, Cond.instanceMethod yX1_isTaken, Cond.selects RX1 yX1_isTaken yX1_isTaken, Cond.code yX1_isTaken cX1_isTaken 3 (some .boolean), Cond.methodLink RX4 57 yX1_size, Cond.instanceMethod yX1_size, Cond.selects RX1 yX1_size yX1_size, Cond.code yX1_size cX1_size 1 (some .int), Cond.fieldLink RX1 43 "MirrorTower$Field" "size" "I", Cond.methodLink RX4 61 yX1_place, Cond.instanceMethod yX1_place, Cond.selects RX1 yX1_place yX1_place, Cond.code yX1_place cX1_place 5 (some .int), Cond.methodLink RX1 46 yX1_isBetween, Cond.instanceMethod yX1_isBetween, Cond.selects RX1 yX1_isBetween yX1_isBetween, Cond.code yX1_isBetween cX1_isBetween 8 (some .boolean), Cond.methodLink RX4 65 yX4_granted, Cond.instanceMethod yX4_granted, Cond.selects RX4 yX4_granted yX4_granted, Cond.code yX4_granted cX4_granted 2 (some .int)]
def wsL_law_r7 : List Cond := [Cond.methodLink RL 17 yX5_mirror, Cond.instanceMethod yX5_mirror, Cond.selects RX5 yX5_mirror yX5_mirror, Cond.code yX5_mirror cX5_mirror 5 (some .int), Cond.fieldLink RX5 1 "MirrorTowerModel" "thrown" "I", Cond.fieldLink RX5 91 "MirrorTowerModel" "mirrors" "I", Cond.methodLink RX5 94 yX5_in, Cond.static yX5_in, Cond.code yX5_in cX5_in 3 (some .boolean), Cond.methodLink RX5 98 yX5_refused, Cond.instanceMethod yX5_refused, Cond.selects RX5 yX5_refused yX5_refused, Cond.code yX5_refused cX5_refused 2 (some .int), Cond.fieldLink RX5 7 "MirrorTowerModel" "trouble" "I", Cond.methodLink RX5 102 yX5_done, Cond.instanceMethod yX5_done, Cond.selects RX5 yX5_done yX5_done, Cond.code yX5_done cX5_done 2 (some .int), Cond.methodLink RL 18 yX4_sun, Cond.instanceMethod yX4_sun, Cond.selects RX4 yX4_sun yX4_sun, Cond.code yX4_sun cX4_sun 6 (some .boolean), Cond.methodLink RX4 68 yX4_isHour, Cond.static yX4_isHour]
def wsL_law_r8 : List Cond := [Cond.code yX4_isHour cX4_isHour 1 (some .boolean), Cond.methodLink RX4 72 yX4_denied, Cond.instanceMethod yX4_denied, Cond.selects RX4 yX4_denied yX4_denied, Cond.code yX4_denied cX4_denied 2 (some .boolean), Cond.methodLink RX4 75 yX1_setSun, Cond.instanceMethod yX1_setSun, Cond.selects RX1 yX1_setSun yX1_setSun, Cond.code yX1_setSun cX1_setSun 5 none, Cond.methodLink RX4 79 yX4_allowed, Cond.instanceMethod yX4_allowed, Cond.selects RX4 yX4_allowed yX4_allowed, Cond.code yX4_allowed cX4_allowed 1 (some .boolean), Cond.methodLink RL 22 yX5_sun, Cond.instanceMethod yX5_sun, Cond.selects RX5 yX5_sun yX5_sun, Cond.code yX5_sun cX5_sun 5 (some .boolean), Cond.methodLink RX5 105 yX5_isHour, Cond.static yX5_isHour, Cond.code yX5_isHour cX5_isHour 1 (some .boolean), Cond.methodLink RX5 109 yX5_denied, Cond.instanceMethod yX5_denied, Cond.selects RX5 yX5_denied yX5_denied, Cond.code yX5_denied cX5_denied 2 (some .boolean)]
def wsL_law_r9 : List Cond := [Cond.methodLink RX5 112 yX5_granted, Cond.instanceMethod yX5_granted, Cond.selects RX5 yX5_granted yX5_granted, Cond.code yX5_granted cX5_granted 1 (some .boolean), Cond.methodLink RL 23 yX4_limit, Cond.instanceMethod yX4_limit, Cond.selects RX4 yX4_limit yX4_limit, Cond.code yX4_limit cX4_limit 3 (some .boolean), Cond.methodLink RX4 83 yX4_isCell, Cond.static yX4_isCell, Cond.code yX4_isCell cX4_isCell 1 (some .boolean), Cond.methodLink RX4 86 yX0_setLimit, Cond.instanceMethod yX0_setLimit, Cond.selects RX0 yX0_setLimit yX0_setLimit, Cond.code yX0_setLimit cX0_setLimit 3 none, Cond.methodLink RL 27 yX5_limit, Cond.instanceMethod yX5_limit, Cond.selects RX5 yX5_limit yX5_limit, Cond.code yX5_limit cX5_limit 3 (some .boolean), Cond.methodLink RL 28 yX4_wind, Cond.instanceMethod yX4_wind, Cond.selects RX4 yX4_wind yX4_wind, Cond.code yX4_wind cX4_wind 3 (some .boolean), Cond.methodLink RX4 90 yX1_setWind]
def wsL_law_r10 : List Cond := [Cond.instanceMethod yX1_setWind, Cond.selects RX1 yX1_setWind yX1_setWind, Cond.code yX1_setWind cX1_setWind 3 none, Cond.methodLink RL 31 yX5_wind, Cond.instanceMethod yX5_wind, Cond.selects RX5 yX5_wind yX5_wind, Cond.code yX5_wind cX5_wind 3 (some .boolean), Cond.methodLink RL 32 yX4_price, Cond.instanceMethod yX4_price, Cond.selects RX4 yX4_price yX4_price, Cond.code yX4_price cX4_price 3 (some .boolean), Cond.methodLink RX4 93 yX3_setPrice, Cond.instanceMethod yX3_setPrice, Cond.selects RX3 yX3_setPrice yX3_setPrice, Cond.code yX3_setPrice cX3_setPrice 3 none, Cond.methodLink RL 35 yX5_price, Cond.instanceMethod yX5_price, Cond.selects RX5 yX5_price yX5_price, Cond.code yX5_price cX5_price 3 (some .boolean), Cond.methodLink RL 36 yX4_dust, Cond.instanceMethod yX4_dust, Cond.selects RX4 yX4_dust yX4_dust, Cond.code yX4_dust cX4_dust 2 (some .boolean), Cond.methodLink RX4 96 yX1_setDust]
def wsL_law_r11 : List Cond := [Cond.instanceMethod yX1_setDust, Cond.selects RX1 yX1_setDust yX1_setDust, Cond.code yX1_setDust cX1_setDust 2 none, Cond.methodLink RL 40 yX5_dust, Cond.instanceMethod yX5_dust, Cond.selects RX5 yX5_dust yX5_dust, Cond.code yX5_dust cX5_dust 2 (some .boolean), Cond.methodLink RL 41 yX4_shaded, Cond.instanceMethod yX4_shaded, Cond.selects RX4 yX4_shaded yX4_shaded, Cond.code yX4_shaded cX4_shaded 4 (some .int), Cond.methodLink RX4 100 yX4_isMirror, Cond.instanceMethod yX4_isMirror, Cond.selects RX4 yX4_isMirror yX4_isMirror, Cond.code yX4_isMirror cX4_isMirror 2 (some .boolean), Cond.methodLink RX4 103 yX1_blockersOf, Cond.instanceMethod yX1_blockersOf, Cond.selects RX1 yX1_blockersOf yX1_blockersOf, Cond.code yX1_blockersOf cX1_blockersOf 2 (some .int), Cond.methodLink RX4 106 yX1_shadersOf, Cond.instanceMethod yX1_shadersOf, Cond.selects RX1 yX1_shadersOf yX1_shadersOf, Cond.code yX1_shadersOf cX1_shadersOf 7 (some .int), Cond.methodLink RL 45 yX5_shaded]
def wsL_law_r12 : List Cond := [Cond.instanceMethod yX5_shaded, Cond.selects RX5 yX5_shaded yX5_shaded, Cond.code yX5_shaded cX5_shaded 4 (some .int), Cond.methodLink RX5 116 yX5_isMirror, Cond.instanceMethod yX5_isMirror, Cond.selects RX5 yX5_isMirror yX5_isMirror, Cond.code yX5_isMirror cX5_isMirror 2 (some .boolean), Cond.methodLink RX5 119 yX5_blocks, Cond.instanceMethod yX5_blocks, Cond.selects RX5 yX5_blocks yX5_blocks, Cond.code yX5_blocks cX5_blocks 9 (some .int), Cond.methodLink RX5 122 yX5_shades, Cond.instanceMethod yX5_shades, Cond.selects RX5 yX5_shades yX5_shades, Cond.code yX5_shades cX5_shades 6 (some .int), Cond.methodLink RL 46 yX4_power, Cond.instanceMethod yX4_power, Cond.selects RX4 yX4_power yX4_power, Cond.code yX4_power cX4_power 3 (some .int), Cond.methodLink RX4 109 yX1_powerOf, Cond.instanceMethod yX1_powerOf, Cond.selects RX1 yX1_powerOf yX1_powerOf, Cond.code yX1_powerOf cX1_powerOf 6 (some .int), Cond.methodLink RX1 58 Lib.Math.max.name]
def wsL_law_r13 : List Cond := [Cond.static Lib.Math.max.name, Cond.initialized "java/lang/Math", Cond.code Lib.Math.max.name Lib.Math.max.code 2 (some .int), Cond.methodLink RX1 50 yX1_isStowed, Cond.instanceMethod yX1_isStowed, Cond.selects RX1 yX1_isStowed yX1_isStowed, Cond.code yX1_isStowed cX1_isStowed 2 (some .boolean), Cond.methodLink RX1 54 yX1_soilOf, Cond.instanceMethod yX1_soilOf, Cond.selects RX1 yX1_soilOf yX1_soilOf, Cond.code yX1_soilOf cX1_soilOf 3 (some .int), Cond.methodLink RX1 66 Lib.Math.min.name, Cond.static Lib.Math.min.name, Cond.code Lib.Math.min.name Lib.Math.min.code 2 (some .int), Cond.methodLink RX1 63 yX1_shadersOf, Cond.methodLink RL 49 yX5_power, Cond.instanceMethod yX5_power, Cond.selects RX5 yX5_power yX5_power, Cond.code yX5_power cX5_power 3 (some .int), Cond.methodLink RX5 137 yX5_powerOf, Cond.instanceMethod yX5_powerOf, Cond.selects RX5 yX5_powerOf yX5_powerOf, Cond.code yX5_powerOf cX5_powerOf 6 (some .int), Cond.methodLink RX5 129 Lib.Math.min.name]
def wsL_law_r14 : List Cond := [Cond.methodLink RX5 134 Lib.Math.max.name, Cond.methodLink RX5 126 yX5_isStowed, Cond.instanceMethod yX5_isStowed, Cond.selects RX5 yX5_isStowed yX5_isStowed, Cond.code yX5_isStowed cX5_isStowed 2 (some .boolean), Cond.methodLink RL 50 yX4_stowed, Cond.instanceMethod yX4_stowed, Cond.selects RX4 yX4_stowed yX4_stowed, Cond.code yX4_stowed cX4_stowed 2 (some .int), Cond.methodLink RX4 113 yX1_isStowed, Cond.methodLink RL 54 yX5_stowed, Cond.instanceMethod yX5_stowed, Cond.selects RX5 yX5_stowed yX5_stowed, Cond.code yX5_stowed cX5_stowed 2 (some .int), Cond.methodLink RL 55 yX4_soil, Cond.instanceMethod yX4_soil, Cond.selects RX4 yX4_soil yX4_soil, Cond.code yX4_soil cX4_soil 2 (some .int), Cond.methodLink RX4 116 yX1_soilOf, Cond.methodLink RL 58 yX5_soil, Cond.instanceMethod yX5_soil, Cond.selects RX5 yX5_soil yX5_soil, Cond.code yX5_soil cX5_soil 2 (some .int), Cond.methodLink RL 59 yX4_wash]
def wsL_law_r15 : List Cond := [Cond.instanceMethod yX4_wash, Cond.selects RX4 yX4_wash yX4_wash, Cond.code yX4_wash cX4_wash 2 (some .int), Cond.methodLink RX4 119 yX1_washMost, Cond.instanceMethod yX1_washMost, Cond.selects RX1 yX1_washMost yX1_washMost, Cond.code yX1_washMost cX1_washMost 5 (some .int), Cond.methodLink RX1 69 yX1_mostSoiled, Cond.instanceMethod yX1_mostSoiled, Cond.selects RX1 yX1_mostSoiled yX1_mostSoiled, Cond.code yX1_mostSoiled cX1_mostSoiled 3 (some .int), Cond.methodLink RL 62 yX5_wash, Cond.instanceMethod yX5_wash, Cond.selects RX5 yX5_wash yX5_wash, Cond.code yX5_wash cX5_wash 6 (some .int), Cond.methodLink RL 63 yX4_aim, Cond.instanceMethod yX4_aim, Cond.selects RX4 yX4_aim yX4_aim, Cond.code yX4_aim cX4_aim 2 (some .int), Cond.methodLink RX4 122 yX0_keepAims, Cond.instanceMethod yX0_keepAims, Cond.selects RX0 yX0_keepAims yX0_keepAims, Cond.code yX0_keepAims cX0_keepAims 4 (some .int), Cond.fieldLink RX0 60 "MirrorTower$Face" "keptSize" "I"]
def wsL_law_r16 : List Cond := [Cond.methodLink RX0 64 arraycopyName, Cond.native arraycopyName, Cond.static arraycopyName, Cond.initialized "java/lang/System", Cond.methodLink RX0 50 yX0_aimAll, Cond.instanceMethod yX0_aimAll, Cond.selects RX0 yX0_aimAll yX0_aimAll, Cond.code yX0_aimAll cX0_aimAll 7 (some .int), Cond.methodLink RX0 70 yX0_readPowers, Cond.instanceMethod yX0_readPowers, Cond.selects RX0 yX0_readPowers yX0_readPowers, Cond.code yX0_readPowers cX0_readPowers 4 none, Cond.methodLink RX0 54 yX1_size, Cond.methodLink RX0 80 yX1_powerOf, Cond.methodLink RX0 74 yX0_rank, Cond.instanceMethod yX0_rank, Cond.selects RX0 yX0_rank yX0_rank, Cond.code yX0_rank cX0_rank 3 none, Cond.methodLink RX0 77 yX0_roomiestCell, Cond.instanceMethod yX0_roomiestCell, Cond.selects RX0 yX0_roomiestCell yX0_roomiestCell, Cond.code yX0_roomiestCell cX0_roomiestCell 3 (some .int), Cond.methodLink RL 66 yX5_aim, Cond.instanceMethod yX5_aim]
def wsL_law_r17 : List Cond := [Cond.selects RX5 yX5_aim yX5_aim, Cond.code yX5_aim cX5_aim 4 (some .int), Cond.methodLink RX5 145 yX5_aims, Cond.instanceMethod yX5_aims, Cond.selects RX5 yX5_aims yX5_aims, Cond.code yX5_aims cX5_aims 8 (some .int), Cond.methodLink RX5 141 yX5_orders, Cond.instanceMethod yX5_orders, Cond.selects RX5 yX5_orders yX5_orders, Cond.code yX5_orders cX5_orders 5 none, Cond.methodLink RL 67 yX4_aimed, Cond.instanceMethod yX4_aimed, Cond.selects RX4 yX4_aimed yX4_aimed, Cond.code yX4_aimed cX4_aimed 2 (some .int), Cond.methodLink RX4 125 yX0_keptCellOf, Cond.instanceMethod yX0_keptCellOf, Cond.selects RX0 yX0_keptCellOf yX0_keptCellOf, Cond.code yX0_keptCellOf cX0_keptCellOf 2 (some .int), Cond.methodLink RL 70 yX5_aimed, Cond.instanceMethod yX5_aimed, Cond.selects RX5 yX5_aimed yX5_aimed, Cond.code yX5_aimed cX5_aimed 2 (some .int), Cond.methodLink RL 71 yX4_face, Cond.instanceMethod yX4_face]
def wsL_law_r18 : List Cond := [Cond.selects RX4 yX4_face yX4_face, Cond.code yX4_face cX4_face 2 (some .int), Cond.methodLink RX4 128 yX0_keptPowerAt, Cond.instanceMethod yX0_keptPowerAt, Cond.selects RX0 yX0_keptPowerAt yX0_keptPowerAt, Cond.code yX0_keptPowerAt cX0_keptPowerAt 2 (some .int), Cond.methodLink RL 74 yX5_face, Cond.instanceMethod yX5_face, Cond.selects RX5 yX5_face yX5_face, Cond.code yX5_face cX5_face 2 (some .int), Cond.methodLink RL 75 yX4_best, Cond.instanceMethod yX4_best, Cond.selects RX4 yX4_best yX4_best, Cond.code yX4_best cX4_best 2 (some .int), Cond.methodLink RX4 131 yX0_bestHeat, Cond.instanceMethod yX0_bestHeat, Cond.selects RX0 yX0_bestHeat yX0_bestHeat, Cond.code yX0_bestHeat cX0_bestHeat 6 (some .int), Cond.methodLink RX0 84 Lib.Math.min.name, Cond.methodLink RX0 96 Lib.Math.max.name, Cond.methodLink RX0 89 yX0_addUpSets, Cond.instanceMethod yX0_addUpSets, Cond.selects RX0 yX0_addUpSets yX0_addUpSets, Cond.code yX0_addUpSets cX0_addUpSets 5 none]
def wsL_law_r19 : List Cond := [Cond.methodLink RX0 93 yX0_widen, Cond.instanceMethod yX0_widen, Cond.selects RX0 yX0_widen yX0_widen, Cond.code yX0_widen cX0_widen 5 none, Cond.methodLink RL 78 yX5_best, Cond.instanceMethod yX5_best, Cond.selects RX5 yX5_best yX5_best, Cond.code yX5_best cX5_best 3 (some .int), Cond.fieldLink RX5 148 "MirrorTowerModel" "most" "I", Cond.methodLink RX5 151 yX5_tries, Cond.instanceMethod yX5_tries, Cond.selects RX5 yX5_tries yX5_tries, Cond.code yX5_tries cX5_tries 5 none, Cond.methodLink RL 79 yX4_comes, Cond.instanceMethod yX4_comes, Cond.selects RX4 yX4_comes yX4_comes, Cond.code yX4_comes cX4_comes 3 (some .int), Cond.methodLink RX4 134 yX3_hourNow, Cond.instanceMethod yX3_hourNow, Cond.selects RX3 yX3_hourNow yX3_hourNow, Cond.code yX3_hourNow cX3_hourNow 1 (some .int), Cond.fieldLink RX3 48 "MirrorTower$Store" "now" "I", Cond.methodLink RX4 137 yX0_aimAll, Cond.methodLink RL 82 yX5_comes]
def wsL_law_r20 : List Cond := [Cond.instanceMethod yX5_comes, Cond.selects RX5 yX5_comes yX5_comes, Cond.code yX5_comes cX5_comes 2 (some .int), Cond.fieldLink RX5 154 "MirrorTowerModel" "now" "I", Cond.methodLink RL 83 yX4_plan, Cond.instanceMethod yX4_plan, Cond.selects RX4 yX4_plan yX4_plan, Cond.code yX4_plan cX4_plan 1 (some .int), Cond.methodLink RX4 140 yX3_layPlan, Cond.instanceMethod yX3_layPlan, Cond.selects RX3 yX3_layPlan yX3_layPlan, Cond.code yX3_layPlan cX3_layPlan 3 (some .int), Cond.fieldLink RX3 51 "MirrorTower$Store" "units" "I", Cond.fieldLink RX3 54 "MirrorTower$Store" "warm" "Z", Cond.methodLink RX3 91 yX3_lookAhead, Cond.instanceMethod yX3_lookAhead, Cond.selects RX3 yX3_lookAhead yX3_lookAhead, Cond.code yX3_lookAhead cX3_lookAhead 3 none, Cond.methodLink RX3 61 yX0_aimAll, Cond.methodLink RX3 67 yX3_filled, Cond.static yX3_filled, Cond.code yX3_filled cX3_filled 2 (some .int), Cond.methodLink RX3 83 Lib.Math.min.name, Cond.methodLink RX3 94 yX3_weighHour]
def wsL_law_r21 : List Cond := [Cond.instanceMethod yX3_weighHour, Cond.selects RX3 yX3_weighHour yX3_weighHour, Cond.code yX3_weighHour cX3_weighHour 3 none, Cond.methodLink RX3 105 yX3_weigh, Cond.instanceMethod yX3_weigh, Cond.selects RX3 yX3_weigh yX3_weigh, Cond.code yX3_weigh cX3_weigh 8 none, Cond.methodLink RX3 101 yX3_stateOf, Cond.static yX3_stateOf, Cond.code yX3_stateOf cX3_stateOf 2 (some .int), Cond.methodLink RX3 70 yX3_needed, Cond.static yX3_needed, Cond.code yX3_needed cX3_needed 1 (some .int), Cond.methodLink RX3 74 yX3_gainOf, Cond.instanceMethod yX3_gainOf, Cond.selects RX3 yX3_gainOf yX3_gainOf, Cond.code yX3_gainOf cX3_gainOf 2 (some .int), Cond.methodLink RX3 98 yX3_followChoices, Cond.instanceMethod yX3_followChoices, Cond.selects RX3 yX3_followChoices yX3_followChoices, Cond.code yX3_followChoices cX3_followChoices 5 none, Cond.fieldLink RX3 88 "MirrorTower$Store" "planned" "I", Cond.methodLink RL 87 yX5_plan, Cond.instanceMethod yX5_plan]
def wsL_law_r22 : List Cond := [Cond.selects RX5 yX5_plan yX5_plan, Cond.code yX5_plan cX5_plan 8 (some .int), Cond.fieldLink RX5 168 "MirrorTowerModel" "store" "I", Cond.fieldLink RX5 171 "MirrorTowerModel" "isWarm" "Z", Cond.methodLink RX5 157 yX5_state, Cond.static yX5_state, Cond.code yX5_state cX5_state 3 (some .int), Cond.methodLink RX5 161 yX5_filled, Cond.static yX5_filled, Cond.code yX5_filled cX5_filled 2 (some .int), Cond.methodLink RX5 164 yX5_takes, Cond.static yX5_takes, Cond.code yX5_takes cX5_takes 1 (some .int), Cond.methodLink RL 88 yX4_runs, Cond.instanceMethod yX4_runs, Cond.selects RX4 yX4_runs yX4_runs, Cond.code yX4_runs cX4_runs 2 (some .int), Cond.methodLink RX4 143 yX3_plannedRun, Cond.instanceMethod yX3_plannedRun, Cond.selects RX3 yX3_plannedRun yX3_plannedRun, Cond.code yX3_plannedRun cX3_plannedRun 2 (some .int), Cond.methodLink RL 91 yX5_runs, Cond.instanceMethod yX5_runs, Cond.selects RX5 yX5_runs yX5_runs]
def wsL_law_r23 : List Cond := [Cond.code yX5_runs cX5_runs 2 (some .int), Cond.methodLink RL 92 yX4_step, Cond.instanceMethod yX4_step, Cond.selects RX4 yX4_step yX4_step, Cond.code yX4_step cX4_step 3 (some .int), Cond.methodLink RX4 146 yX3_passHour, Cond.instanceMethod yX3_passHour, Cond.selects RX3 yX3_passHour yX3_passHour, Cond.code yX3_passHour cX3_passHour 5 (some .int), Cond.fieldLink RX3 58 "MirrorTower$Store" "earnings" "I", Cond.methodLink RX3 78 yX1_growSoil, Cond.instanceMethod yX1_growSoil, Cond.selects RX1 yX1_growSoil yX1_growSoil, Cond.code yX1_growSoil cX1_growSoil 2 none, Cond.methodLink RL 96 yX5_step, Cond.instanceMethod yX5_step, Cond.selects RX5 yX5_step yX5_step, Cond.code yX5_step cX5_step 5 (some .int), Cond.fieldLink RX5 175 "MirrorTowerModel" "earned" "I", Cond.methodLink RL 97 yX4_earned, Cond.instanceMethod yX4_earned, Cond.selects RX4 yX4_earned yX4_earned, Cond.code yX4_earned cX4_earned 1 (some .int), Cond.methodLink RX4 150 yX3_earnedInAll]
def wsL_law_r24 : List Cond := [Cond.instanceMethod yX3_earnedInAll, Cond.selects RX3 yX3_earnedInAll yX3_earnedInAll, Cond.code yX3_earnedInAll cX3_earnedInAll 1 (some .int), Cond.methodLink RL 100 yX5_earned, Cond.instanceMethod yX5_earned, Cond.selects RX5 yX5_earned yX5_earned, Cond.code yX5_earned cX5_earned 1 (some .int), Cond.methodLink RL 101 yX4_shot, Cond.instanceMethod yX4_shot, Cond.selects RX4 yX4_shot yX4_shot, Cond.code yX4_shot cX4_shot 6 (some .int), Cond.constantLong RX4 153 (4294967295), Cond.methodLink RX4 161 Lib.Math.min.name, Cond.methodLink RX4 155 yJ13_bitCount_95d88, Cond.static yJ13_bitCount_95d88, Cond.initialized RJ13, Cond.code yJ13_bitCount_95d88 cJ13_bitCount_95d88 2 (some .int), Cond.constantLong RJ13 314 (6148914691236517205), Cond.constantLong RJ13 316 (3689348814741910323), Cond.constantLong RJ13 318 (1085102592571150095), Cond.methodLink RX4 166 yX2_size, Cond.instanceMethod yX2_size, Cond.selects RX2 yX2_size yX2_size, Cond.code yX2_size cX2_size 1 (some .int)]
def wsL_law_r25 : List Cond := [Cond.fieldLink RX2 18 "MirrorTower$Shots" "size" "I", Cond.methodLink RX4 167 yX2_note, Cond.instanceMethod yX2_note, Cond.selects RX2 yX2_note yX2_note, Cond.code yX2_note cX2_note 6 (some .int), Cond.fieldLink RX2 22 "MirrorTower$Shots" "missing" "I", Cond.methodLink RX2 31 Lib.Math.min.name, Cond.methodLink RX2 25 yJ13_bitCount_95d88, Cond.methodLink RL 105 yX5_shot, Cond.instanceMethod yX5_shot, Cond.selects RX5 yX5_shot yX5_shot, Cond.code yX5_shot cX5_shot 6 (some .int), Cond.constantLong RX5 178 (4294967295), Cond.constantLong RX5 184 (-1), Cond.fieldLink RX5 186 "MirrorTowerModel" "shots" "I", Cond.methodLink RX5 180 yX5_bits, Cond.static yX5_bits, Cond.code yX5_bits cX5_bits 5 (some .int), Cond.methodLink RL 106 yX4_forget, Cond.instanceMethod yX4_forget, Cond.selects RX4 yX4_forget yX4_forget, Cond.code yX4_forget cX4_forget 1 (some .int), Cond.methodLink RX4 171 yX2_drop, Cond.instanceMethod yX2_drop]
def wsL_law_r26 : List Cond := [Cond.selects RX2 yX2_drop yX2_drop, Cond.code yX2_drop cX2_drop 2 (some .int), Cond.methodLink RX2 37 yJ7_fill_53178, Cond.methodLink RL 109 yX5_forget, Cond.instanceMethod yX5_forget, Cond.selects RX5 yX5_forget yX5_forget, Cond.code yX5_forget cX5_forget 2 (some .int), Cond.methodLink RL 110 yX4_agree, Cond.instanceMethod yX4_agree, Cond.selects RX4 yX4_agree yX4_agree, Cond.code yX4_agree cX4_agree 1 (some .int), Cond.methodLink RX4 174 yX2_setsOf, Cond.instanceMethod yX2_setsOf, Cond.selects RX2 yX2_setsOf yX2_setsOf, Cond.code yX2_setsOf cX2_setsOf 2 (some .int), Cond.fieldLink RX2 47 "MirrorTower$Shots" "sets" "I", Cond.methodLink RX2 43 yX2_tally, Cond.instanceMethod yX2_tally, Cond.selects RX2 yX2_tally yX2_tally, Cond.code yX2_tally cX2_tally 4 none, Cond.methodLink RL 113 yX5_agree, Cond.instanceMethod yX5_agree, Cond.selects RX5 yX5_agree yX5_agree, Cond.code yX5_agree cX5_agree 1 (some .int)]
def wsL_law_r27 : List Cond := [Cond.methodLink RX5 193 yX5_agreeing, Cond.instanceMethod yX5_agreeing, Cond.selects RX5 yX5_agreeing yX5_agreeing, Cond.code yX5_agreeing cX5_agreeing 4 (some .int), Cond.methodLink RX5 189 yX5_agrees, Cond.instanceMethod yX5_agrees, Cond.selects RX5 yX5_agrees yX5_agrees, Cond.code yX5_agrees cX5_agrees 5 (some .boolean), Cond.methodLink RL 114 yX4_stuck, Cond.instanceMethod yX4_stuck, Cond.selects RX4 yX4_stuck yX4_stuck, Cond.code yX4_stuck cX4_stuck 2 (some .int), Cond.methodLink RX4 177 yX2_verdictOn, Cond.instanceMethod yX2_verdictOn, Cond.selects RX2 yX2_verdictOn yX2_verdictOn, Cond.code yX2_verdictOn cX2_verdictOn 3 (some .int), Cond.methodLink RX2 50 yX2_isSure, Cond.instanceMethod yX2_isSure, Cond.selects RX2 yX2_isSure yX2_isSure, Cond.code yX2_isSure cX2_isSure 2 (some .boolean), Cond.methodLink RL 117 yX5_stuck, Cond.instanceMethod yX5_stuck, Cond.selects RX5 yX5_stuck yX5_stuck, Cond.code yX5_stuck cX5_stuck 3 (some .int)]
def wsL_law_r28 : List Cond := [Cond.methodLink RL 118 yX4_unsure, Cond.instanceMethod yX4_unsure, Cond.selects RX4 yX4_unsure yX4_unsure, Cond.code yX4_unsure cX4_unsure 1 (some .int), Cond.methodLink RX4 180 yX2_unsureOf, Cond.instanceMethod yX2_unsureOf, Cond.selects RX2 yX2_unsureOf yX2_unsureOf, Cond.code yX2_unsureOf cX2_unsureOf 4 (some .int), Cond.methodLink RL 121 yX5_unsure, Cond.instanceMethod yX5_unsure, Cond.selects RX5 yX5_unsure yX5_unsure, Cond.code yX5_unsure cX5_unsure 4 (some .int), Cond.methodLink RL 122 yX4_count, Cond.instanceMethod yX4_count, Cond.selects RX4 yX4_count yX4_count, Cond.code yX4_count cX4_count 2 (some .int), Cond.methodLink RX4 183 yX3_unitsHeld, Cond.instanceMethod yX3_unitsHeld, Cond.selects RX3 yX3_unitsHeld yX3_unitsHeld, Cond.code yX3_unitsHeld cX3_unitsHeld 1 (some .int), Cond.methodLink RX4 186 yX3_isWarm, Cond.instanceMethod yX3_isWarm, Cond.selects RX3 yX3_isWarm yX3_isWarm, Cond.code yX3_isWarm cX3_isWarm 1 (some .boolean)]
def wsL_law_r29 : List Cond := [Cond.methodLink RX4 189 yX1_soilInAll, Cond.instanceMethod yX1_soilInAll, Cond.selects RX1 yX1_soilInAll yX1_soilInAll, Cond.code yX1_soilInAll cX1_soilInAll 3 (some .int), Cond.methodLink RL 125 yX5_count, Cond.instanceMethod yX5_count, Cond.selects RX5 yX5_count yX5_count, Cond.code yX5_count cX5_count 4 (some .int), Cond.methodLink RL 126 yX4_trouble, Cond.instanceMethod yX4_trouble, Cond.selects RX4 yX4_trouble yX4_trouble, Cond.code yX4_trouble cX4_trouble 1 (some .int), Cond.methodLink RL 129 yX5_trouble, Cond.instanceMethod yX5_trouble, Cond.selects RX5 yX5_trouble yX5_trouble, Cond.code yX5_trouble cX5_trouble 1 (some .int)]
def wsL_law : List Cond := (wsL_law_r1 ++ (wsL_law_r2 ++ (wsL_law_r3 ++ (wsL_law_r4 ++ (wsL_law_r5 ++ (wsL_law_r6 ++ (wsL_law_r7 ++ (wsL_law_r8 ++ (wsL_law_r9 ++ (wsL_law_r10 ++ (wsL_law_r11 ++ (wsL_law_r12 ++ (wsL_law_r13 ++ (wsL_law_r14 ++ (wsL_law_r15 ++ (wsL_law_r16 ++ (wsL_law_r17 ++ (wsL_law_r18 ++ (wsL_law_r19 ++ (wsL_law_r20 ++ (wsL_law_r21 ++ (wsL_law_r22 ++ (wsL_law_r23 ++ (wsL_law_r24 ++ (wsL_law_r25 ++ (wsL_law_r26 ++ (wsL_law_r27 ++ (wsL_law_r28 ++ wsL_law_r29)))))))))))))))))))))))))))) ++ wsX40 ++ wsX50 ++ wsX10 ++ wsX00 ++ wsX30 ++ wsX20 ++ ([] : List Cond)
set_option maxRecDepth 20000 in
theorem mem_pl {big ws : List Cond} (ps : List Nat) (hp : ws = ps.filterMap (fun i => big[i]?)) : ∀ w ∈ ws, w ∈ big := by
  intro w hw
  rw [hp] at hw
  obtain ⟨i, -, hi⟩ := List.mem_filterMap.mp hw
  exact List.mem_of_getElem? hi
set_option maxRecDepth 100000 in
theorem p_wsL_law_r1 : ∀ w ∈ wsL_law_r1, w ∈ lw_tbl := mem_pl [44, 45, 34, 593, 594, 40, 46, 47, 48, 49, 50, 51, 52, 53, 35, 209, 93, 94, 36, 210, 137, 138, 38, 211] rfl
set_option maxRecDepth 100000 in
theorem p_wsL_law_r2 : ∀ w ∈ wsL_law_r2, w ∈ lw_tbl := mem_pl [187, 188, 39, 212, 213, 54, 55, 56, 57, 92, 58, 59, 60, 61, 62, 64, 65, 66, 67, 68, 95, 96, 97, 98] rfl
set_option maxRecDepth 100000 in
theorem p_wsL_law_r3 : ∀ w ∈ wsL_law_r3, w ∈ lw_tbl := mem_pl [102, 103, 104, 105, 106, 107, 108, 109, 111, 136, 112, 99, 100, 37, 101, 139, 140, 141, 142, 144, 145, 146, 151, 152] rfl
set_option maxRecDepth 100000 in
theorem p_wsL_law_r4 : ∀ w ∈ wsL_law_r4, w ∈ lw_tbl := mem_pl [153, 154, 155, 157, 143, 189, 190, 191, 192, 193, 197, 595, 596, 597, 598, 605, 607, 608, 609, 610, 611, 612, 613, 614] rfl
set_option maxRecDepth 100000 in
theorem p_wsL_law_r5 : ∀ w ∈ wsL_law_r5, w ∈ lw_tbl := mem_pl [615, 616, 617, 618, 619, 620, 621, 622, 624, 625, 626, 627, 699, 628, 629, 631, 225, 226, 227, 228, 229, 230, 231, 232] rfl
set_option maxRecDepth 100000 in
theorem p_wsL_law_r6 : ∀ w ∈ wsL_law_r6, w ∈ lw_tbl := mem_pl [234, 0, 235, 236, 237, 238, 239, 240, 241, 242, 243, 63, 244, 245, 246, 247, 248, 250, 1, 251, 252, 254, 2, 255] rfl
set_option maxRecDepth 100000 in
theorem p_wsL_law_r7 : ∀ w ∈ wsL_law_r7, w ∈ lw_tbl := mem_pl [700, 701, 702, 703, 599, 601, 704, 705, 706, 707, 709, 19, 710, 600, 711, 713, 20, 714, 256, 257, 258, 259, 260, 261] rfl
set_option maxRecDepth 100000 in
theorem p_wsL_law_r8 : ∀ w ∈ wsL_law_r8, w ∈ lw_tbl := mem_pl [262, 263, 265, 3, 266, 267, 268, 269, 270, 271, 273, 4, 274, 715, 716, 717, 718, 719, 720, 721, 722, 724, 21, 725] rfl
set_option maxRecDepth 100000 in
theorem p_wsL_law_r9 : ∀ w ∈ wsL_law_r9, w ∈ lw_tbl := mem_pl [726, 728, 22, 729, 275, 276, 277, 278, 279, 280, 281, 282, 283, 284, 285, 730, 731, 732, 733, 286, 287, 288, 289, 290] rfl
set_option maxRecDepth 100000 in
theorem p_wsL_law_r10 : ∀ w ∈ wsL_law_r10, w ∈ lw_tbl := mem_pl [291, 292, 293, 734, 735, 736, 737, 294, 295, 296, 297, 298, 299, 300, 301, 738, 739, 740, 741, 302, 303, 304, 305, 306] rfl
set_option maxRecDepth 100000 in
theorem p_wsL_law_r11 : ∀ w ∈ wsL_law_r11, w ∈ lw_tbl := mem_pl [307, 308, 309, 742, 743, 744, 745, 310, 311, 312, 313, 314, 316, 5, 317, 318, 319, 320, 321, 322, 323, 324, 325, 746] rfl
set_option maxRecDepth 100000 in
theorem p_wsL_law_r12 : ∀ w ∈ wsL_law_r12, w ∈ lw_tbl := mem_pl [747, 748, 749, 750, 752, 23, 753, 754, 756, 24, 757, 758, 760, 25, 761, 326, 327, 328, 329, 330, 331, 332, 333, 345] rfl
set_option maxRecDepth 100000 in
theorem p_wsL_law_r13 : ∀ w ∈ wsL_law_r13, w ∈ lw_tbl := mem_pl [346, 41, 347, 334, 335, 336, 337, 338, 339, 340, 341, 342, 343, 344, 348, 762, 763, 764, 765, 766, 768, 26, 769, 774] rfl
set_option maxRecDepth 100000 in
theorem p_wsL_law_r14 : ∀ w ∈ wsL_law_r14, w ∈ lw_tbl := mem_pl [775, 770, 772, 27, 773, 349, 350, 351, 352, 353, 776, 777, 778, 779, 354, 355, 356, 357, 358, 780, 781, 782, 783, 359] rfl
set_option maxRecDepth 100000 in
theorem p_wsL_law_r15 : ∀ w ∈ wsL_law_r15, w ∈ lw_tbl := mem_pl [360, 361, 362, 363, 364, 365, 366, 367, 369, 6, 370, 784, 785, 786, 787, 371, 372, 373, 374, 375, 376, 377, 378, 110] rfl
set_option maxRecDepth 100000 in
theorem p_wsL_law_r16 : ∀ w ∈ wsL_law_r16, w ∈ lw_tbl := mem_pl [393, 395, 394, 42, 379, 380, 381, 382, 383, 385, 7, 386, 387, 388, 389, 391, 8, 392, 396, 398, 9, 399, 788, 789] rfl
set_option maxRecDepth 100000 in
theorem p_wsL_law_r17 : ∀ w ∈ wsL_law_r17, w ∈ lw_tbl := mem_pl [790, 791, 792, 794, 28, 795, 796, 798, 29, 799, 400, 401, 402, 403, 404, 405, 406, 407, 800, 801, 802, 803, 408, 409] rfl
set_option maxRecDepth 100000 in
theorem p_wsL_law_r18 : ∀ w ∈ wsL_law_r18, w ∈ lw_tbl := mem_pl [410, 411, 412, 413, 414, 415, 804, 805, 806, 807, 416, 417, 418, 419, 420, 421, 422, 423, 424, 433, 425, 427, 10, 428] rfl
set_option maxRecDepth 100000 in
theorem p_wsL_law_r19 : ∀ w ∈ wsL_law_r19, w ∈ lw_tbl := mem_pl [429, 431, 11, 432, 808, 809, 810, 811, 623, 812, 814, 30, 815, 434, 435, 436, 437, 438, 439, 440, 441, 147, 442, 816] rfl
set_option maxRecDepth 100000 in
theorem p_wsL_law_r20 : ∀ w ∈ wsL_law_r20, w ∈ lw_tbl := mem_pl [817, 818, 819, 602, 443, 444, 445, 446, 447, 448, 449, 450, 148, 149, 451, 453, 12, 454, 455, 456, 457, 458, 459, 460] rfl
set_option maxRecDepth 100000 in
theorem p_wsL_law_r21 : ∀ w ∈ wsL_law_r21, w ∈ lw_tbl := mem_pl [462, 13, 463, 464, 466, 14, 467, 468, 469, 470, 471, 472, 473, 474, 476, 15, 477, 478, 480, 16, 481, 156, 820, 821] rfl
set_option maxRecDepth 100000 in
theorem p_wsL_law_r22 : ∀ w ∈ wsL_law_r22, w ∈ lw_tbl := mem_pl [822, 823, 603, 606, 824, 825, 826, 827, 828, 829, 830, 831, 832, 482, 483, 484, 485, 486, 487, 488, 489, 833, 834, 835] rfl
set_option maxRecDepth 100000 in
theorem p_wsL_law_r23 : ∀ w ∈ wsL_law_r23, w ∈ lw_tbl := mem_pl [836, 490, 491, 492, 493, 494, 495, 496, 497, 150, 498, 499, 500, 501, 837, 838, 839, 840, 604, 502, 503, 504, 505, 506] rfl
set_option maxRecDepth 100000 in
theorem p_wsL_law_r24 : ∀ w ∈ wsL_law_r24, w ∈ lw_tbl := mem_pl [507, 508, 509, 841, 842, 843, 844, 510, 511, 512, 513, 514, 521, 515, 516, 43, 517, 518, 519, 520, 522, 523, 524, 525] rfl
set_option maxRecDepth 100000 in
theorem p_wsL_law_r25 : ∀ w ∈ wsL_law_r25, w ∈ lw_tbl := mem_pl [195, 526, 527, 528, 529, 194, 531, 530, 845, 846, 847, 848, 849, 853, 630, 850, 851, 852, 532, 533, 534, 535, 536, 537] rfl
set_option maxRecDepth 100000 in
theorem p_wsL_law_r26 : ∀ w ∈ wsL_law_r26, w ∈ lw_tbl := mem_pl [538, 539, 540, 854, 855, 856, 857, 541, 542, 543, 544, 545, 546, 547, 548, 196, 549, 551, 17, 552, 858, 859, 860, 861] rfl
set_option maxRecDepth 100000 in
theorem p_wsL_law_r27 : ∀ w ∈ wsL_law_r27, w ∈ lw_tbl := mem_pl [862, 864, 31, 865, 866, 868, 32, 869, 553, 554, 555, 556, 557, 558, 559, 560, 561, 563, 18, 564, 870, 871, 872, 873] rfl
set_option maxRecDepth 100000 in
theorem p_wsL_law_r28 : ∀ w ∈ wsL_law_r28, w ∈ lw_tbl := mem_pl [565, 566, 567, 568, 569, 570, 571, 572, 874, 875, 876, 877, 573, 574, 575, 576, 577, 578, 579, 580, 581, 582, 583, 584] rfl
set_option maxRecDepth 100000 in
theorem p_wsL_law_r29 : ∀ w ∈ wsL_law_r29, w ∈ lw_tbl := mem_pl [585, 586, 587, 588, 878, 879, 880, 881, 589, 590, 591, 592, 882, 883, 884, 885] rfl
set_option maxRecDepth 100000 in
theorem p_wsX40 : ∀ w ∈ wsX40, w ∈ lw_tbl := by decide +kernel
set_option maxRecDepth 100000 in
theorem p_wsX50 : ∀ w ∈ wsX50, w ∈ lw_tbl := by decide +kernel
set_option maxRecDepth 100000 in
theorem p_wsX10 : ∀ w ∈ wsX10, w ∈ lw_tbl := by decide +kernel
set_option maxRecDepth 100000 in
theorem p_wsX00 : ∀ w ∈ wsX00, w ∈ lw_tbl := by decide +kernel
set_option maxRecDepth 100000 in
theorem p_wsX30 : ∀ w ∈ wsX30, w ∈ lw_tbl := by decide +kernel
set_option maxRecDepth 100000 in
theorem p_wsX20 : ∀ w ∈ wsX20, w ∈ lw_tbl := by decide +kernel
theorem wsL_law_in : ∀ w ∈ wsL_law, w ∈ lw_tbl := by
  show ∀ w ∈ (wsL_law_r1 ++ (wsL_law_r2 ++ (wsL_law_r3 ++ (wsL_law_r4 ++ (wsL_law_r5 ++ (wsL_law_r6 ++ (wsL_law_r7 ++ (wsL_law_r8 ++ (wsL_law_r9 ++ (wsL_law_r10 ++ (wsL_law_r11 ++ (wsL_law_r12 ++ (wsL_law_r13 ++ (wsL_law_r14 ++ (wsL_law_r15 ++ (wsL_law_r16 ++ (wsL_law_r17 ++ (wsL_law_r18 ++ (wsL_law_r19 ++ (wsL_law_r20 ++ (wsL_law_r21 ++ (wsL_law_r22 ++ (wsL_law_r23 ++ (wsL_law_r24 ++ (wsL_law_r25 ++ (wsL_law_r26 ++ (wsL_law_r27 ++ (wsL_law_r28 ++ wsL_law_r29)))))))))))))))))))))))))))) ++ wsX40 ++ wsX50 ++ wsX10 ++ wsX00 ++ wsX30 ++ wsX20 ++ ([] : List Cond), w ∈ lw_tbl
  exact (List.forall_mem_append.mpr ⟨(List.forall_mem_append.mpr ⟨(List.forall_mem_append.mpr ⟨(List.forall_mem_append.mpr ⟨(List.forall_mem_append.mpr ⟨(List.forall_mem_append.mpr ⟨(List.forall_mem_append.mpr ⟨(List.forall_mem_append.mpr ⟨p_wsL_law_r1, (List.forall_mem_append.mpr ⟨p_wsL_law_r2, (List.forall_mem_append.mpr ⟨p_wsL_law_r3, (List.forall_mem_append.mpr ⟨p_wsL_law_r4, (List.forall_mem_append.mpr ⟨p_wsL_law_r5, (List.forall_mem_append.mpr ⟨p_wsL_law_r6, (List.forall_mem_append.mpr ⟨p_wsL_law_r7, (List.forall_mem_append.mpr ⟨p_wsL_law_r8, (List.forall_mem_append.mpr ⟨p_wsL_law_r9, (List.forall_mem_append.mpr ⟨p_wsL_law_r10, (List.forall_mem_append.mpr ⟨p_wsL_law_r11, (List.forall_mem_append.mpr ⟨p_wsL_law_r12, (List.forall_mem_append.mpr ⟨p_wsL_law_r13, (List.forall_mem_append.mpr ⟨p_wsL_law_r14, (List.forall_mem_append.mpr ⟨p_wsL_law_r15, (List.forall_mem_append.mpr ⟨p_wsL_law_r16, (List.forall_mem_append.mpr ⟨p_wsL_law_r17, (List.forall_mem_append.mpr ⟨p_wsL_law_r18, (List.forall_mem_append.mpr ⟨p_wsL_law_r19, (List.forall_mem_append.mpr ⟨p_wsL_law_r20, (List.forall_mem_append.mpr ⟨p_wsL_law_r21, (List.forall_mem_append.mpr ⟨p_wsL_law_r22, (List.forall_mem_append.mpr ⟨p_wsL_law_r23, (List.forall_mem_append.mpr ⟨p_wsL_law_r24, (List.forall_mem_append.mpr ⟨p_wsL_law_r25, (List.forall_mem_append.mpr ⟨p_wsL_law_r26, (List.forall_mem_append.mpr ⟨p_wsL_law_r27, (List.forall_mem_append.mpr ⟨p_wsL_law_r28, p_wsL_law_r29⟩)⟩)⟩)⟩)⟩)⟩)⟩)⟩)⟩)⟩)⟩)⟩)⟩)⟩)⟩)⟩)⟩)⟩)⟩)⟩)⟩)⟩)⟩)⟩)⟩)⟩)⟩)⟩), p_wsX40⟩), p_wsX50⟩), p_wsX10⟩), p_wsX00⟩), p_wsX30⟩), p_wsX20⟩), (fun _ h => absurd h List.not_mem_nil)⟩)
theorem inlX0 : ∀ w ∈ wsX00, w ∈ wsL_law := fun _ h => List.mem_append_left _ (List.mem_append_left _ (List.mem_append_left _ (List.mem_append_right _ h)))
theorem inX0 : ∀ w ∈ wsX00, w ∈ lw_tbl := fun w h => wsL_law_in w (inlX0 w h)
theorem inlX1 : ∀ w ∈ wsX10, w ∈ wsL_law := fun _ h => List.mem_append_left _ (List.mem_append_left _ (List.mem_append_left _ (List.mem_append_left _ (List.mem_append_right _ h))))
theorem inX1 : ∀ w ∈ wsX10, w ∈ lw_tbl := fun w h => wsL_law_in w (inlX1 w h)
theorem inlX2 : ∀ w ∈ wsX20, w ∈ wsL_law := fun _ h => List.mem_append_left _ (List.mem_append_right _ h)
theorem inX2 : ∀ w ∈ wsX20, w ∈ lw_tbl := fun w h => wsL_law_in w (inlX2 w h)
theorem inlX3 : ∀ w ∈ wsX30, w ∈ wsL_law := fun _ h => List.mem_append_left _ (List.mem_append_left _ (List.mem_append_right _ h))
theorem inX3 : ∀ w ∈ wsX30, w ∈ lw_tbl := fun w h => wsL_law_in w (inlX3 w h)
theorem inlX4 : ∀ w ∈ wsX40, w ∈ wsL_law := fun _ h => List.mem_append_left _ (List.mem_append_left _ (List.mem_append_left _ (List.mem_append_left _ (List.mem_append_left _ (List.mem_append_left _ (List.mem_append_right _ h))))))
theorem inX4 : ∀ w ∈ wsX40, w ∈ lw_tbl := fun w h => wsL_law_in w (inlX4 w h)
theorem inlX5 : ∀ w ∈ wsX50, w ∈ wsL_law := fun _ h => List.mem_append_left _ (List.mem_append_left _ (List.mem_append_left _ (List.mem_append_left _ (List.mem_append_left _ (List.mem_append_right _ h)))))
theorem inX5 : ∀ w ∈ wsX50, w ∈ lw_tbl := fun w h => wsL_law_in w (inlX5 w h)
theorem inJ13 : ∀ w ∈ wsJ130, w ∈ lw_tbl := by decide +kernel
theorem inJ9 : ∀ w ∈ wsJ90, w ∈ lw_tbl := by decide +kernel
theorem inJ10 : ∀ w ∈ wsJ100, w ∈ lw_tbl := by decide +kernel
theorem inJ7 : ∀ w ∈ wsJ70, w ∈ lw_tbl := by decide +kernel
set_option maxRecDepth 20000 in
theorem ggX0_init_J7_fill_53178 : GoodIn wsX0_init wsJ7_fill_53178 := goodIn_r _ [19] rfl (by decide +kernel)
set_option maxRecDepth 20000 in
theorem gX0_init_J7_fill_53178 : GoodIn wsX0_init (va_wsS RX0 19 yJ7_fill_53178 wsJ7_fill_53178) := goodIn_app (goodIn_of _ (by decide +kernel)) ggX0_init_J7_fill_53178
theorem dX0_init_0 : decode cX0_init 0 = .ok (.aload_n 0, 1) := by decide +kernel
theorem dX0_init_1 : decode cX0_init 1 = .ok (.invokespecial 5, 3) := by decide +kernel
theorem dX0_init_4 : decode cX0_init 4 = .ok (.aload_n 0, 1) := by decide +kernel
theorem dX0_init_5 : decode cX0_init 5 = .ok (.aload_n 1, 1) := by decide +kernel
theorem dX0_init_6 : decode cX0_init 6 = .ok (.putfield 11, 3) := by decide +kernel
theorem dX0_init_9 : decode cX0_init 9 = .ok (.aload_n 0, 1) := by decide +kernel
theorem dX0_init_10 : decode cX0_init 10 = .ok (.iconst 4, 1) := by decide +kernel
theorem dX0_init_11 : decode cX0_init 11 = .ok (.newarray .int, 2) := by decide +kernel
theorem dX0_init_13 : decode cX0_init 13 = .ok (.putfield 15, 3) := by decide +kernel
theorem dX0_init_16 : decode cX0_init 16 = .ok (.aload_n 0, 1) := by decide +kernel
theorem dX0_init_17 : decode cX0_init 17 = .ok (.getfield 15, 3) := by decide +kernel
theorem dX0_init_20 : decode cX0_init 20 = .ok (.sipush 500, 3) := by decide +kernel
theorem dX0_init_23 : decode cX0_init 23 = .ok (.invokestatic 19, 3) := by decide +kernel
theorem dX0_init_26 : decode cX0_init 26 = .ok (.aload_n 0, 1) := by decide +kernel
theorem dX0_init_27 : decode cX0_init 27 = .ok (.bipush 40, 2) := by decide +kernel
theorem dX0_init_29 : decode cX0_init 29 = .ok (.newarray .int, 2) := by decide +kernel
theorem dX0_init_31 : decode cX0_init 31 = .ok (.putfield 25, 3) := by decide +kernel
theorem dX0_init_34 : decode cX0_init 34 = .ok (.aload_n 0, 1) := by decide +kernel
theorem dX0_init_35 : decode cX0_init 35 = .ok (.bipush 40, 2) := by decide +kernel
theorem dX0_init_37 : decode cX0_init 37 = .ok (.newarray .int, 2) := by decide +kernel
theorem dX0_init_39 : decode cX0_init 39 = .ok (.putfield 28, 3) := by decide +kernel
theorem dX0_init_42 : decode cX0_init 42 = .ok (.aload_n 0, 1) := by decide +kernel
theorem dX0_init_43 : decode cX0_init 43 = .ok (.bipush 40, 2) := by decide +kernel
theorem dX0_init_45 : decode cX0_init 45 = .ok (.newarray .int, 2) := by decide +kernel
theorem dX0_init_47 : decode cX0_init 47 = .ok (.putfield 31, 3) := by decide +kernel
theorem dX0_init_50 : decode cX0_init 50 = .ok (.aload_n 0, 1) := by decide +kernel
theorem dX0_init_51 : decode cX0_init 51 = .ok (.iconst 4, 1) := by decide +kernel
theorem dX0_init_52 : decode cX0_init 52 = .ok (.newarray .int, 2) := by decide +kernel
theorem dX0_init_54 : decode cX0_init 54 = .ok (.putfield 34, 3) := by decide +kernel
theorem dX0_init_57 : decode cX0_init 57 = .ok (.aload_n 0, 1) := by decide +kernel
theorem dX0_init_58 : decode cX0_init 58 = .ok (.bipush 40, 2) := by decide +kernel
theorem dX0_init_60 : decode cX0_init 60 = .ok (.newarray .int, 2) := by decide +kernel
theorem dX0_init_62 : decode cX0_init 62 = .ok (.putfield 37, 3) := by decide +kernel
theorem dX0_init_65 : decode cX0_init 65 = .ok (.aload_n 0, 1) := by decide +kernel
theorem dX0_init_66 : decode cX0_init 66 = .ok (.iconst 4, 1) := by decide +kernel
theorem dX0_init_67 : decode cX0_init 67 = .ok (.newarray .int, 2) := by decide +kernel
theorem dX0_init_69 : decode cX0_init 69 = .ok (.putfield 40, 3) := by decide +kernel
theorem dX0_init_72 : decode cX0_init 72 = .ok (.aload_n 0, 1) := by decide +kernel
theorem dX0_init_73 : decode cX0_init 73 = .ok (.sipush 128, 3) := by decide +kernel
theorem dX0_init_76 : decode cX0_init 76 = .ok (.newarray .int, 2) := by decide +kernel
theorem dX0_init_78 : decode cX0_init 78 = .ok (.putfield 43, 3) := by decide +kernel
theorem dX0_init_81 : decode cX0_init 81 = .ok (.aload_n 0, 1) := by decide +kernel
theorem dX0_init_82 : decode cX0_init 82 = .ok (.sipush 128, 3) := by decide +kernel
theorem dX0_init_85 : decode cX0_init 85 = .ok (.newarray .boolean, 2) := by decide +kernel
theorem dX0_init_87 : decode cX0_init 87 = .ok (.putfield 46, 3) := by decide +kernel
theorem dX0_init_90 : decode cX0_init 90 = .ok (.return_, 1) := by decide +kernel
theorem dX0_setLimit_0 : decode cX0_setLimit 0 = .ok (.aload_n 0, 1) := by decide +kernel
theorem dX0_setLimit_1 : decode cX0_setLimit 1 = .ok (.getfield 15, 3) := by decide +kernel
theorem dX0_setLimit_4 : decode cX0_setLimit 4 = .ok (.iload_n 1, 1) := by decide +kernel
theorem dX0_setLimit_5 : decode cX0_setLimit 5 = .ok (.iload_n 2, 1) := by decide +kernel
theorem dX0_setLimit_6 : decode cX0_setLimit 6 = .ok (.iastore, 1) := by decide +kernel
theorem dX0_setLimit_7 : decode cX0_setLimit 7 = .ok (.return_, 1) := by decide +kernel
set_option maxRecDepth 20000 in
theorem ggX0_keepAims_X0_aimAll : GoodIn wsX0_keepAims wsX0_aimAll := goodIn_r _ [16, 10, 11, 5, 6, 7, 8, 1, 17, 18, 3, 19, 20, 21, 15, 22, 23, 24, 25, 26, 27, 28, 29, 30, 31, 32, 33, 34, 35, 36, 37, 38, 39, 40, 41, 42, 43, 44, 45, 46, 47, 48, 49, 50, 51, 52, 53, 54, 55, 56, 57, 58, 59, 60, 61, 62, 63, 64, 65, 66, 67, 68, 69, 70, 71, 72, 73, 74, 75, 76, 77, 78, 79, 80, 81, 82, 83, 84, 85, 86, 87, 88, 89, 90, 91] rfl (by decide +kernel)
set_option maxRecDepth 20000 in
theorem gX0_keepAims_X0_aimAll : GoodIn wsX0_keepAims (wsV RX0 50 RX0 yX0_aimAll wsX0_aimAll) := goodIn_app (goodIn_of _ (by decide +kernel)) ggX0_keepAims_X0_aimAll
set_option maxRecDepth 20000 in
theorem ggX0_keepAims_X1_size : GoodIn wsX0_keepAims wsX1_size := goodIn_r _ [27, 28, 81, 82, 83, 84, 85, 86, 87, 88, 89, 90, 91] rfl (by decide +kernel)
set_option maxRecDepth 20000 in
theorem gX0_keepAims_X1_size : GoodIn wsX0_keepAims (wsV RX0 54 RX1 yX1_size wsX1_size) := goodIn_app (goodIn_of _ (by decide +kernel)) ggX0_keepAims_X1_size
theorem dX0_keepAims_0 : decode cX0_keepAims 0 = .ok (.aload_n 0, 1) := by decide +kernel
theorem dX0_keepAims_1 : decode cX0_keepAims 1 = .ok (.iload_n 1, 1) := by decide +kernel
theorem dX0_keepAims_2 : decode cX0_keepAims 2 = .ok (.iconst 0, 1) := by decide +kernel
theorem dX0_keepAims_3 : decode cX0_keepAims 3 = .ok (.invokevirtual 50, 3) := by decide +kernel
theorem dX0_keepAims_6 : decode cX0_keepAims 6 = .ok (.istore_n 2, 1) := by decide +kernel
theorem dX0_keepAims_7 : decode cX0_keepAims 7 = .ok (.aload_n 0, 1) := by decide +kernel
theorem dX0_keepAims_8 : decode cX0_keepAims 8 = .ok (.aload_n 0, 1) := by decide +kernel
theorem dX0_keepAims_9 : decode cX0_keepAims 9 = .ok (.getfield 11, 3) := by decide +kernel
theorem dX0_keepAims_12 : decode cX0_keepAims 12 = .ok (.invokevirtual 54, 3) := by decide +kernel
theorem dX0_keepAims_15 : decode cX0_keepAims 15 = .ok (.putfield 60, 3) := by decide +kernel
theorem dX0_keepAims_18 : decode cX0_keepAims 18 = .ok (.aload_n 0, 1) := by decide +kernel
theorem dX0_keepAims_19 : decode cX0_keepAims 19 = .ok (.getfield 31, 3) := by decide +kernel
theorem dX0_keepAims_22 : decode cX0_keepAims 22 = .ok (.iconst 0, 1) := by decide +kernel
theorem dX0_keepAims_23 : decode cX0_keepAims 23 = .ok (.aload_n 0, 1) := by decide +kernel
theorem dX0_keepAims_24 : decode cX0_keepAims 24 = .ok (.getfield 37, 3) := by decide +kernel
theorem dX0_keepAims_27 : decode cX0_keepAims 27 = .ok (.iconst 0, 1) := by decide +kernel
theorem dX0_keepAims_28 : decode cX0_keepAims 28 = .ok (.aload_n 0, 1) := by decide +kernel
theorem dX0_keepAims_29 : decode cX0_keepAims 29 = .ok (.getfield 60, 3) := by decide +kernel
theorem dX0_keepAims_32 : decode cX0_keepAims 32 = .ok (.invokestatic 64, 3) := by decide +kernel
theorem dX0_keepAims_35 : decode cX0_keepAims 35 = .ok (.iconst 0, 1) := by decide +kernel
theorem dX0_keepAims_36 : decode cX0_keepAims 36 = .ok (.istore_n 3, 1) := by decide +kernel
theorem dX0_keepAims_37 : decode cX0_keepAims 37 = .ok (.iload_n 3, 1) := by decide +kernel
theorem dX0_keepAims_38 : decode cX0_keepAims 38 = .ok (.iconst 4, 1) := by decide +kernel
theorem dX0_keepAims_39 : decode cX0_keepAims 39 = .ok (.if_icmp .ge 28, 3) := by decide +kernel
theorem dX0_keepAims_42 : decode cX0_keepAims 42 = .ok (.aload_n 0, 1) := by decide +kernel
theorem dX0_keepAims_43 : decode cX0_keepAims 43 = .ok (.getfield 40, 3) := by decide +kernel
theorem dX0_keepAims_46 : decode cX0_keepAims 46 = .ok (.iload_n 3, 1) := by decide +kernel
theorem dX0_keepAims_47 : decode cX0_keepAims 47 = .ok (.aload_n 0, 1) := by decide +kernel
theorem dX0_keepAims_48 : decode cX0_keepAims 48 = .ok (.getfield 15, 3) := by decide +kernel
theorem dX0_keepAims_51 : decode cX0_keepAims 51 = .ok (.iload_n 3, 1) := by decide +kernel
theorem dX0_keepAims_52 : decode cX0_keepAims 52 = .ok (.iaload, 1) := by decide +kernel
theorem dX0_keepAims_53 : decode cX0_keepAims 53 = .ok (.aload_n 0, 1) := by decide +kernel
theorem dX0_keepAims_54 : decode cX0_keepAims 54 = .ok (.getfield 34, 3) := by decide +kernel
theorem dX0_keepAims_57 : decode cX0_keepAims 57 = .ok (.iload_n 3, 1) := by decide +kernel
theorem dX0_keepAims_58 : decode cX0_keepAims 58 = .ok (.iaload, 1) := by decide +kernel
theorem dX0_keepAims_59 : decode cX0_keepAims 59 = .ok (.isub, 1) := by decide +kernel
theorem dX0_keepAims_60 : decode cX0_keepAims 60 = .ok (.iastore, 1) := by decide +kernel
theorem dX0_keepAims_61 : decode cX0_keepAims 61 = .ok (.iinc 3 1, 3) := by decide +kernel
theorem dX0_keepAims_64 : decode cX0_keepAims 64 = .ok (.goto (-27), 3) := by decide +kernel
theorem dX0_keepAims_67 : decode cX0_keepAims 67 = .ok (.iload_n 2, 1) := by decide +kernel
theorem dX0_keepAims_68 : decode cX0_keepAims 68 = .ok (.ireturn, 1) := by decide +kernel
theorem dX0_keptCellOf_0 : decode cX0_keptCellOf 0 = .ok (.iload_n 1, 1) := by decide +kernel
theorem dX0_keptCellOf_1 : decode cX0_keptCellOf 1 = .ok (.aload_n 0, 1) := by decide +kernel
theorem dX0_keptCellOf_2 : decode cX0_keptCellOf 2 = .ok (.getfield 60, 3) := by decide +kernel
theorem dX0_keptCellOf_5 : decode cX0_keptCellOf 5 = .ok (.if_icmp .ge 12, 3) := by decide +kernel
theorem dX0_keptCellOf_8 : decode cX0_keptCellOf 8 = .ok (.aload_n 0, 1) := by decide +kernel
theorem dX0_keptCellOf_9 : decode cX0_keptCellOf 9 = .ok (.getfield 37, 3) := by decide +kernel
theorem dX0_keptCellOf_12 : decode cX0_keptCellOf 12 = .ok (.iload_n 1, 1) := by decide +kernel
theorem dX0_keptCellOf_13 : decode cX0_keptCellOf 13 = .ok (.iaload, 1) := by decide +kernel
theorem dX0_keptCellOf_14 : decode cX0_keptCellOf 14 = .ok (.goto 4, 3) := by decide +kernel
theorem dX0_keptCellOf_17 : decode cX0_keptCellOf 17 = .ok (.iconst (-1), 1) := by decide +kernel
theorem dX0_keptCellOf_18 : decode cX0_keptCellOf 18 = .ok (.ireturn, 1) := by decide +kernel
theorem dX0_keptPowerAt_0 : decode cX0_keptPowerAt 0 = .ok (.aload_n 0, 1) := by decide +kernel
theorem dX0_keptPowerAt_1 : decode cX0_keptPowerAt 1 = .ok (.getfield 40, 3) := by decide +kernel
theorem dX0_keptPowerAt_4 : decode cX0_keptPowerAt 4 = .ok (.iload_n 1, 1) := by decide +kernel
theorem dX0_keptPowerAt_5 : decode cX0_keptPowerAt 5 = .ok (.iaload, 1) := by decide +kernel
theorem dX0_keptPowerAt_6 : decode cX0_keptPowerAt 6 = .ok (.ireturn, 1) := by decide +kernel
set_option maxRecDepth 20000 in
theorem ggX0_aimAll_X0_readPowers : GoodIn wsX0_aimAll wsX0_readPowers := goodIn_r _ [15, 7, 9, 16, 17, 18, 19, 20, 21, 22, 23, 24, 25, 26, 27, 28, 29, 30, 31, 32, 33, 34, 35, 36, 37, 38, 39, 40, 41, 42, 43, 44, 45, 46, 47, 48, 49, 50, 51, 52, 53, 54, 63, 64, 65, 66, 67, 68, 69, 70, 71, 72, 73, 74, 75, 76, 77, 78, 79, 80, 81, 82, 83, 84] rfl (by decide +kernel)
set_option maxRecDepth 20000 in
theorem gX0_aimAll_X0_readPowers : GoodIn wsX0_aimAll (wsV RX0 70 RX0 yX0_readPowers wsX0_readPowers) := goodIn_app (goodIn_of _ (by decide +kernel)) ggX0_aimAll_X0_readPowers
set_option maxRecDepth 20000 in
theorem ggX0_aimAll_X0_rank : GoodIn wsX0_aimAll wsX0_rank := goodIn_r _ [58, 7, 9, 8, 16, 17, 18, 19, 20, 21, 63, 64, 65, 66, 67, 68, 69, 70, 71, 72, 73, 74, 75, 76, 77, 78, 79, 80, 81, 82, 83, 84] rfl (by decide +kernel)
set_option maxRecDepth 20000 in
theorem gX0_aimAll_X0_rank : GoodIn wsX0_aimAll (wsV RX0 74 RX0 yX0_rank wsX0_rank) := goodIn_app (goodIn_of _ (by decide +kernel)) ggX0_aimAll_X0_rank
set_option maxRecDepth 20000 in
theorem ggX0_aimAll_X1_size : GoodIn wsX0_aimAll wsX1_size := goodIn_r _ [20, 21, 74, 75, 76, 77, 78, 79, 80, 81, 82, 83, 84] rfl (by decide +kernel)
set_option maxRecDepth 20000 in
theorem gX0_aimAll_X1_size : GoodIn wsX0_aimAll (wsV RX0 54 RX1 yX1_size wsX1_size) := goodIn_app (goodIn_of _ (by decide +kernel)) ggX0_aimAll_X1_size
set_option maxRecDepth 20000 in
theorem ggX0_aimAll_X0_roomiestCell : GoodIn wsX0_aimAll wsX0_roomiestCell := goodIn_r _ [62, 2, 63, 64, 65, 66, 67, 68, 69, 70, 71, 72, 73] rfl (by decide +kernel)
set_option maxRecDepth 20000 in
theorem gX0_aimAll_X0_roomiestCell : GoodIn wsX0_aimAll (wsV RX0 77 RX0 yX0_roomiestCell wsX0_roomiestCell) := goodIn_app (goodIn_of _ (by decide +kernel)) ggX0_aimAll_X0_roomiestCell
theorem dX0_aimAll_0 : decode cX0_aimAll 0 = .ok (.aload_n 0, 1) := by decide +kernel
theorem dX0_aimAll_1 : decode cX0_aimAll 1 = .ok (.iload_n 1, 1) := by decide +kernel
theorem dX0_aimAll_2 : decode cX0_aimAll 2 = .ok (.iload_n 2, 1) := by decide +kernel
theorem dX0_aimAll_3 : decode cX0_aimAll 3 = .ok (.invokevirtual 70, 3) := by decide +kernel
theorem dX0_aimAll_6 : decode cX0_aimAll 6 = .ok (.aload_n 0, 1) := by decide +kernel
theorem dX0_aimAll_7 : decode cX0_aimAll 7 = .ok (.invokevirtual 74, 3) := by decide +kernel
theorem dX0_aimAll_10 : decode cX0_aimAll 10 = .ok (.aload_n 0, 1) := by decide +kernel
theorem dX0_aimAll_11 : decode cX0_aimAll 11 = .ok (.getfield 15, 3) := by decide +kernel
theorem dX0_aimAll_14 : decode cX0_aimAll 14 = .ok (.iconst 0, 1) := by decide +kernel
theorem dX0_aimAll_15 : decode cX0_aimAll 15 = .ok (.aload_n 0, 1) := by decide +kernel
theorem dX0_aimAll_16 : decode cX0_aimAll 16 = .ok (.getfield 34, 3) := by decide +kernel
theorem dX0_aimAll_19 : decode cX0_aimAll 19 = .ok (.iconst 0, 1) := by decide +kernel
theorem dX0_aimAll_20 : decode cX0_aimAll 20 = .ok (.iconst 4, 1) := by decide +kernel
theorem dX0_aimAll_21 : decode cX0_aimAll 21 = .ok (.invokestatic 64, 3) := by decide +kernel
theorem dX0_aimAll_24 : decode cX0_aimAll 24 = .ok (.iconst 0, 1) := by decide +kernel
theorem dX0_aimAll_25 : decode cX0_aimAll 25 = .ok (.istore_n 3, 1) := by decide +kernel
theorem dX0_aimAll_26 : decode cX0_aimAll 26 = .ok (.iconst 0, 1) := by decide +kernel
theorem dX0_aimAll_27 : decode cX0_aimAll 27 = .ok (.istore 4, 2) := by decide +kernel
theorem dX0_aimAll_29 : decode cX0_aimAll 29 = .ok (.iload 4, 2) := by decide +kernel
theorem dX0_aimAll_31 : decode cX0_aimAll 31 = .ok (.aload_n 0, 1) := by decide +kernel
theorem dX0_aimAll_32 : decode cX0_aimAll 32 = .ok (.getfield 11, 3) := by decide +kernel
theorem dX0_aimAll_35 : decode cX0_aimAll 35 = .ok (.invokevirtual 54, 3) := by decide +kernel
theorem dX0_aimAll_38 : decode cX0_aimAll 38 = .ok (.if_icmp .ge 89, 3) := by decide +kernel
theorem dX0_aimAll_41 : decode cX0_aimAll 41 = .ok (.aload_n 0, 1) := by decide +kernel
theorem dX0_aimAll_42 : decode cX0_aimAll 42 = .ok (.getfield 25, 3) := by decide +kernel
theorem dX0_aimAll_45 : decode cX0_aimAll 45 = .ok (.iload 4, 2) := by decide +kernel
theorem dX0_aimAll_47 : decode cX0_aimAll 47 = .ok (.iaload, 1) := by decide +kernel
theorem dX0_aimAll_48 : decode cX0_aimAll 48 = .ok (.istore 5, 2) := by decide +kernel
theorem dX0_aimAll_50 : decode cX0_aimAll 50 = .ok (.aload_n 0, 1) := by decide +kernel
theorem dX0_aimAll_51 : decode cX0_aimAll 51 = .ok (.invokevirtual 77, 3) := by decide +kernel
theorem dX0_aimAll_54 : decode cX0_aimAll 54 = .ok (.istore 6, 2) := by decide +kernel
theorem dX0_aimAll_56 : decode cX0_aimAll 56 = .ok (.aload_n 0, 1) := by decide +kernel
theorem dX0_aimAll_57 : decode cX0_aimAll 57 = .ok (.getfield 28, 3) := by decide +kernel
theorem dX0_aimAll_60 : decode cX0_aimAll 60 = .ok (.iload 5, 2) := by decide +kernel
theorem dX0_aimAll_62 : decode cX0_aimAll 62 = .ok (.iaload, 1) := by decide +kernel
theorem dX0_aimAll_63 : decode cX0_aimAll 63 = .ok (.aload_n 0, 1) := by decide +kernel
theorem dX0_aimAll_64 : decode cX0_aimAll 64 = .ok (.getfield 34, 3) := by decide +kernel
theorem dX0_aimAll_67 : decode cX0_aimAll 67 = .ok (.iload 6, 2) := by decide +kernel
theorem dX0_aimAll_69 : decode cX0_aimAll 69 = .ok (.iaload, 1) := by decide +kernel
theorem dX0_aimAll_70 : decode cX0_aimAll 70 = .ok (.if_icmp .gt 42, 3) := by decide +kernel
theorem dX0_aimAll_73 : decode cX0_aimAll 73 = .ok (.aload_n 0, 1) := by decide +kernel
theorem dX0_aimAll_74 : decode cX0_aimAll 74 = .ok (.getfield 31, 3) := by decide +kernel
theorem dX0_aimAll_77 : decode cX0_aimAll 77 = .ok (.iload 5, 2) := by decide +kernel
theorem dX0_aimAll_79 : decode cX0_aimAll 79 = .ok (.iload 6, 2) := by decide +kernel
theorem dX0_aimAll_81 : decode cX0_aimAll 81 = .ok (.iastore, 1) := by decide +kernel
theorem dX0_aimAll_82 : decode cX0_aimAll 82 = .ok (.aload_n 0, 1) := by decide +kernel
theorem dX0_aimAll_83 : decode cX0_aimAll 83 = .ok (.getfield 34, 3) := by decide +kernel
theorem dX0_aimAll_86 : decode cX0_aimAll 86 = .ok (.iload 6, 2) := by decide +kernel
theorem dX0_aimAll_88 : decode cX0_aimAll 88 = .ok (.dup2, 1) := by decide +kernel
theorem dX0_aimAll_89 : decode cX0_aimAll 89 = .ok (.iaload, 1) := by decide +kernel
theorem dX0_aimAll_90 : decode cX0_aimAll 90 = .ok (.aload_n 0, 1) := by decide +kernel
theorem dX0_aimAll_91 : decode cX0_aimAll 91 = .ok (.getfield 28, 3) := by decide +kernel
theorem dX0_aimAll_94 : decode cX0_aimAll 94 = .ok (.iload 5, 2) := by decide +kernel
theorem dX0_aimAll_96 : decode cX0_aimAll 96 = .ok (.iaload, 1) := by decide +kernel
theorem dX0_aimAll_97 : decode cX0_aimAll 97 = .ok (.isub, 1) := by decide +kernel
theorem dX0_aimAll_98 : decode cX0_aimAll 98 = .ok (.iastore, 1) := by decide +kernel
theorem dX0_aimAll_99 : decode cX0_aimAll 99 = .ok (.iload_n 3, 1) := by decide +kernel
theorem dX0_aimAll_100 : decode cX0_aimAll 100 = .ok (.aload_n 0, 1) := by decide +kernel
theorem dX0_aimAll_101 : decode cX0_aimAll 101 = .ok (.getfield 28, 3) := by decide +kernel
theorem dX0_aimAll_104 : decode cX0_aimAll 104 = .ok (.iload 5, 2) := by decide +kernel
theorem dX0_aimAll_106 : decode cX0_aimAll 106 = .ok (.iaload, 1) := by decide +kernel
theorem dX0_aimAll_107 : decode cX0_aimAll 107 = .ok (.iadd, 1) := by decide +kernel
theorem dX0_aimAll_108 : decode cX0_aimAll 108 = .ok (.istore_n 3, 1) := by decide +kernel
theorem dX0_aimAll_109 : decode cX0_aimAll 109 = .ok (.goto 12, 3) := by decide +kernel
theorem dX0_aimAll_112 : decode cX0_aimAll 112 = .ok (.aload_n 0, 1) := by decide +kernel
theorem dX0_aimAll_113 : decode cX0_aimAll 113 = .ok (.getfield 31, 3) := by decide +kernel
theorem dX0_aimAll_116 : decode cX0_aimAll 116 = .ok (.iload 5, 2) := by decide +kernel
theorem dX0_aimAll_118 : decode cX0_aimAll 118 = .ok (.bipush (-2), 2) := by decide +kernel
theorem dX0_aimAll_120 : decode cX0_aimAll 120 = .ok (.iastore, 1) := by decide +kernel
theorem dX0_aimAll_121 : decode cX0_aimAll 121 = .ok (.iinc 4 1, 3) := by decide +kernel
theorem dX0_aimAll_124 : decode cX0_aimAll 124 = .ok (.goto (-95), 3) := by decide +kernel
theorem dX0_aimAll_127 : decode cX0_aimAll 127 = .ok (.iload_n 3, 1) := by decide +kernel
theorem dX0_aimAll_128 : decode cX0_aimAll 128 = .ok (.ireturn, 1) := by decide +kernel
theorem dX0_roomiestCell_0 : decode cX0_roomiestCell 0 = .ok (.iconst 0, 1) := by decide +kernel
theorem dX0_roomiestCell_1 : decode cX0_roomiestCell 1 = .ok (.istore_n 1, 1) := by decide +kernel
theorem dX0_roomiestCell_2 : decode cX0_roomiestCell 2 = .ok (.iconst 1, 1) := by decide +kernel
theorem dX0_roomiestCell_3 : decode cX0_roomiestCell 3 = .ok (.istore_n 2, 1) := by decide +kernel
theorem dX0_roomiestCell_4 : decode cX0_roomiestCell 4 = .ok (.iload_n 2, 1) := by decide +kernel
theorem dX0_roomiestCell_5 : decode cX0_roomiestCell 5 = .ok (.iconst 4, 1) := by decide +kernel
theorem dX0_roomiestCell_6 : decode cX0_roomiestCell 6 = .ok (.if_icmp .ge 26, 3) := by decide +kernel
theorem dX0_roomiestCell_9 : decode cX0_roomiestCell 9 = .ok (.aload_n 0, 1) := by decide +kernel
theorem dX0_roomiestCell_10 : decode cX0_roomiestCell 10 = .ok (.getfield 34, 3) := by decide +kernel
theorem dX0_roomiestCell_13 : decode cX0_roomiestCell 13 = .ok (.iload_n 2, 1) := by decide +kernel
theorem dX0_roomiestCell_14 : decode cX0_roomiestCell 14 = .ok (.iaload, 1) := by decide +kernel
theorem dX0_roomiestCell_15 : decode cX0_roomiestCell 15 = .ok (.aload_n 0, 1) := by decide +kernel
theorem dX0_roomiestCell_16 : decode cX0_roomiestCell 16 = .ok (.getfield 34, 3) := by decide +kernel
theorem dX0_roomiestCell_19 : decode cX0_roomiestCell 19 = .ok (.iload_n 1, 1) := by decide +kernel
theorem dX0_roomiestCell_20 : decode cX0_roomiestCell 20 = .ok (.iaload, 1) := by decide +kernel
theorem dX0_roomiestCell_21 : decode cX0_roomiestCell 21 = .ok (.if_icmp .le 5, 3) := by decide +kernel
theorem dX0_roomiestCell_24 : decode cX0_roomiestCell 24 = .ok (.iload_n 2, 1) := by decide +kernel
theorem dX0_roomiestCell_25 : decode cX0_roomiestCell 25 = .ok (.istore_n 1, 1) := by decide +kernel
theorem dX0_roomiestCell_26 : decode cX0_roomiestCell 26 = .ok (.iinc 2 1, 3) := by decide +kernel
theorem dX0_roomiestCell_29 : decode cX0_roomiestCell 29 = .ok (.goto (-25), 3) := by decide +kernel
theorem dX0_roomiestCell_32 : decode cX0_roomiestCell 32 = .ok (.iload_n 1, 1) := by decide +kernel
theorem dX0_roomiestCell_33 : decode cX0_roomiestCell 33 = .ok (.ireturn, 1) := by decide +kernel
set_option maxRecDepth 20000 in
theorem ggX0_readPowers_X1_size : GoodIn wsX0_readPowers wsX1_size := goodIn_r _ [7, 8, 53, 54, 55, 56, 57, 58, 59, 60, 61, 62, 63] rfl (by decide +kernel)
set_option maxRecDepth 20000 in
theorem gX0_readPowers_X1_size : GoodIn wsX0_readPowers (wsV RX0 54 RX1 yX1_size wsX1_size) := goodIn_app (goodIn_of _ (by decide +kernel)) ggX0_readPowers_X1_size
set_option maxRecDepth 20000 in
theorem ggX0_readPowers_X1_powerOf : GoodIn wsX0_readPowers wsX1_powerOf := goodIn_r _ [12, 13, 14, 15, 16, 17, 18, 19, 20, 21, 6, 22, 23, 24, 25, 26, 27, 28, 29, 30, 31, 32, 33, 34, 35, 36, 37, 38, 39, 40, 41, 53, 54, 55, 56, 57, 58, 59, 60, 61, 62, 63] rfl (by decide +kernel)
set_option maxRecDepth 20000 in
theorem gX0_readPowers_X1_powerOf : GoodIn wsX0_readPowers (wsV RX0 80 RX1 yX1_powerOf wsX1_powerOf) := goodIn_app (goodIn_of _ (by decide +kernel)) ggX0_readPowers_X1_powerOf
theorem dX0_readPowers_0 : decode cX0_readPowers 0 = .ok (.iconst 0, 1) := by decide +kernel
theorem dX0_readPowers_1 : decode cX0_readPowers 1 = .ok (.istore_n 3, 1) := by decide +kernel
theorem dX0_readPowers_2 : decode cX0_readPowers 2 = .ok (.iload_n 3, 1) := by decide +kernel
theorem dX0_readPowers_3 : decode cX0_readPowers 3 = .ok (.aload_n 0, 1) := by decide +kernel
theorem dX0_readPowers_4 : decode cX0_readPowers 4 = .ok (.getfield 11, 3) := by decide +kernel
theorem dX0_readPowers_7 : decode cX0_readPowers 7 = .ok (.invokevirtual 54, 3) := by decide +kernel
theorem dX0_readPowers_10 : decode cX0_readPowers 10 = .ok (.if_icmp .ge 25, 3) := by decide +kernel
theorem dX0_readPowers_13 : decode cX0_readPowers 13 = .ok (.aload_n 0, 1) := by decide +kernel
theorem dX0_readPowers_14 : decode cX0_readPowers 14 = .ok (.getfield 28, 3) := by decide +kernel
theorem dX0_readPowers_17 : decode cX0_readPowers 17 = .ok (.iload_n 3, 1) := by decide +kernel
theorem dX0_readPowers_18 : decode cX0_readPowers 18 = .ok (.aload_n 0, 1) := by decide +kernel
theorem dX0_readPowers_19 : decode cX0_readPowers 19 = .ok (.getfield 11, 3) := by decide +kernel
theorem dX0_readPowers_22 : decode cX0_readPowers 22 = .ok (.iload_n 3, 1) := by decide +kernel
theorem dX0_readPowers_23 : decode cX0_readPowers 23 = .ok (.iload_n 1, 1) := by decide +kernel
theorem dX0_readPowers_24 : decode cX0_readPowers 24 = .ok (.iload_n 2, 1) := by decide +kernel
theorem dX0_readPowers_25 : decode cX0_readPowers 25 = .ok (.invokevirtual 80, 3) := by decide +kernel
theorem dX0_readPowers_28 : decode cX0_readPowers 28 = .ok (.iastore, 1) := by decide +kernel
theorem dX0_readPowers_29 : decode cX0_readPowers 29 = .ok (.iinc 3 1, 3) := by decide +kernel
theorem dX0_readPowers_32 : decode cX0_readPowers 32 = .ok (.goto (-30), 3) := by decide +kernel
theorem dX0_readPowers_35 : decode cX0_readPowers 35 = .ok (.return_, 1) := by decide +kernel
set_option maxRecDepth 20000 in
theorem ggX0_rank_X1_size : GoodIn wsX0_rank wsX1_size := goodIn_r _ [8, 9, 21, 22, 23, 24, 25, 26, 27, 28, 29, 30, 31] rfl (by decide +kernel)
set_option maxRecDepth 20000 in
theorem gX0_rank_X1_size : GoodIn wsX0_rank (wsV RX0 54 RX1 yX1_size wsX1_size) := goodIn_app (goodIn_of _ (by decide +kernel)) ggX0_rank_X1_size
theorem dX0_rank_0 : decode cX0_rank 0 = .ok (.iconst 0, 1) := by decide +kernel
theorem dX0_rank_1 : decode cX0_rank 1 = .ok (.istore_n 1, 1) := by decide +kernel
theorem dX0_rank_2 : decode cX0_rank 2 = .ok (.iload_n 1, 1) := by decide +kernel
theorem dX0_rank_3 : decode cX0_rank 3 = .ok (.aload_n 0, 1) := by decide +kernel
theorem dX0_rank_4 : decode cX0_rank 4 = .ok (.getfield 11, 3) := by decide +kernel
theorem dX0_rank_7 : decode cX0_rank 7 = .ok (.invokevirtual 54, 3) := by decide +kernel
theorem dX0_rank_10 : decode cX0_rank 10 = .ok (.if_icmp .ge 64, 3) := by decide +kernel
theorem dX0_rank_13 : decode cX0_rank 13 = .ok (.iload_n 1, 1) := by decide +kernel
theorem dX0_rank_14 : decode cX0_rank 14 = .ok (.istore_n 2, 1) := by decide +kernel
theorem dX0_rank_15 : decode cX0_rank 15 = .ok (.iload_n 2, 1) := by decide +kernel
theorem dX0_rank_16 : decode cX0_rank 16 = .ok (.ifCond .le 45, 3) := by decide +kernel
theorem dX0_rank_19 : decode cX0_rank 19 = .ok (.aload_n 0, 1) := by decide +kernel
theorem dX0_rank_20 : decode cX0_rank 20 = .ok (.getfield 28, 3) := by decide +kernel
theorem dX0_rank_23 : decode cX0_rank 23 = .ok (.aload_n 0, 1) := by decide +kernel
theorem dX0_rank_24 : decode cX0_rank 24 = .ok (.getfield 25, 3) := by decide +kernel
theorem dX0_rank_27 : decode cX0_rank 27 = .ok (.iload_n 2, 1) := by decide +kernel
theorem dX0_rank_28 : decode cX0_rank 28 = .ok (.iconst 1, 1) := by decide +kernel
theorem dX0_rank_29 : decode cX0_rank 29 = .ok (.isub, 1) := by decide +kernel
theorem dX0_rank_30 : decode cX0_rank 30 = .ok (.iaload, 1) := by decide +kernel
theorem dX0_rank_31 : decode cX0_rank 31 = .ok (.iaload, 1) := by decide +kernel
theorem dX0_rank_32 : decode cX0_rank 32 = .ok (.aload_n 0, 1) := by decide +kernel
theorem dX0_rank_33 : decode cX0_rank 33 = .ok (.getfield 28, 3) := by decide +kernel
theorem dX0_rank_36 : decode cX0_rank 36 = .ok (.iload_n 1, 1) := by decide +kernel
theorem dX0_rank_37 : decode cX0_rank 37 = .ok (.iaload, 1) := by decide +kernel
theorem dX0_rank_38 : decode cX0_rank 38 = .ok (.if_icmp .ge 23, 3) := by decide +kernel
theorem dX0_rank_41 : decode cX0_rank 41 = .ok (.aload_n 0, 1) := by decide +kernel
theorem dX0_rank_42 : decode cX0_rank 42 = .ok (.getfield 25, 3) := by decide +kernel
theorem dX0_rank_45 : decode cX0_rank 45 = .ok (.iload_n 2, 1) := by decide +kernel
theorem dX0_rank_46 : decode cX0_rank 46 = .ok (.aload_n 0, 1) := by decide +kernel
theorem dX0_rank_47 : decode cX0_rank 47 = .ok (.getfield 25, 3) := by decide +kernel
theorem dX0_rank_50 : decode cX0_rank 50 = .ok (.iload_n 2, 1) := by decide +kernel
theorem dX0_rank_51 : decode cX0_rank 51 = .ok (.iconst 1, 1) := by decide +kernel
theorem dX0_rank_52 : decode cX0_rank 52 = .ok (.isub, 1) := by decide +kernel
theorem dX0_rank_53 : decode cX0_rank 53 = .ok (.iaload, 1) := by decide +kernel
theorem dX0_rank_54 : decode cX0_rank 54 = .ok (.iastore, 1) := by decide +kernel
theorem dX0_rank_55 : decode cX0_rank 55 = .ok (.iinc 2 (-1), 3) := by decide +kernel
theorem dX0_rank_58 : decode cX0_rank 58 = .ok (.goto (-43), 3) := by decide +kernel
theorem dX0_rank_61 : decode cX0_rank 61 = .ok (.aload_n 0, 1) := by decide +kernel
theorem dX0_rank_62 : decode cX0_rank 62 = .ok (.getfield 25, 3) := by decide +kernel
theorem dX0_rank_65 : decode cX0_rank 65 = .ok (.iload_n 2, 1) := by decide +kernel
theorem dX0_rank_66 : decode cX0_rank 66 = .ok (.iload_n 1, 1) := by decide +kernel
theorem dX0_rank_67 : decode cX0_rank 67 = .ok (.iastore, 1) := by decide +kernel
theorem dX0_rank_68 : decode cX0_rank 68 = .ok (.iinc 1 1, 3) := by decide +kernel
theorem dX0_rank_71 : decode cX0_rank 71 = .ok (.goto (-69), 3) := by decide +kernel
theorem dX0_rank_74 : decode cX0_rank 74 = .ok (.return_, 1) := by decide +kernel
set_option maxRecDepth 20000 in
theorem ggX0_bestHeat_X0_readPowers : GoodIn wsX0_bestHeat wsX0_readPowers := goodIn_r _ [16, 1, 17, 18, 19, 20, 21, 22, 23, 24, 25, 26, 27, 28, 29, 10, 4, 11, 30, 31, 32, 33, 34, 35, 36, 37, 38, 39, 40, 41, 42, 3, 5, 43, 44, 45, 46, 47, 48, 49, 50, 51, 65, 66, 67, 68, 69, 70, 71, 72, 73, 74, 75, 76, 77, 78, 79, 80, 81, 82, 83, 84, 85, 86] rfl (by decide +kernel)
set_option maxRecDepth 20000 in
theorem gX0_bestHeat_X0_readPowers : GoodIn wsX0_bestHeat (wsV RX0 70 RX0 yX0_readPowers wsX0_readPowers) := goodIn_app (goodIn_of _ (by decide +kernel)) ggX0_bestHeat_X0_readPowers
set_option maxRecDepth 20000 in
theorem ggX0_bestHeat_X0_rank : GoodIn wsX0_bestHeat wsX0_rank := goodIn_r _ [55, 1, 17, 56, 18, 19, 20, 21, 22, 23, 65, 66, 67, 68, 69, 70, 71, 72, 73, 74, 75, 76, 77, 78, 79, 80, 81, 82, 83, 84, 85, 86] rfl (by decide +kernel)
set_option maxRecDepth 20000 in
theorem gX0_bestHeat_X0_rank : GoodIn wsX0_bestHeat (wsV RX0 74 RX0 yX0_rank wsX0_rank) := goodIn_app (goodIn_of _ (by decide +kernel)) ggX0_bestHeat_X0_rank
set_option maxRecDepth 20000 in
theorem ggX0_bestHeat_X1_size : GoodIn wsX0_bestHeat wsX1_size := goodIn_r _ [22, 23, 76, 77, 78, 79, 80, 81, 82, 83, 84, 85, 86] rfl (by decide +kernel)
set_option maxRecDepth 20000 in
theorem gX0_bestHeat_X1_size : GoodIn wsX0_bestHeat (wsV RX0 54 RX1 yX1_size wsX1_size) := goodIn_app (goodIn_of _ (by decide +kernel)) ggX0_bestHeat_X1_size
set_option maxRecDepth 20000 in
theorem ggX0_bestHeat_X0_addUpSets : GoodIn wsX0_bestHeat wsX0_addUpSets := goodIn_r _ [60, 8, 17, 56, 65, 66, 67, 68, 69, 70, 71, 72, 73, 74, 75] rfl (by decide +kernel)
set_option maxRecDepth 20000 in
theorem gX0_bestHeat_X0_addUpSets : GoodIn wsX0_bestHeat (wsV RX0 89 RX0 yX0_addUpSets wsX0_addUpSets) := goodIn_app (goodIn_of _ (by decide +kernel)) ggX0_bestHeat_X0_addUpSets
set_option maxRecDepth 20000 in
theorem ggX0_bestHeat_X0_widen : GoodIn wsX0_bestHeat wsX0_widen := goodIn_r _ [64, 6, 8, 65, 66, 67, 68, 69, 70, 71, 72, 73, 74, 75] rfl (by decide +kernel)
set_option maxRecDepth 20000 in
theorem gX0_bestHeat_X0_widen : GoodIn wsX0_bestHeat (wsV RX0 93 RX0 yX0_widen wsX0_widen) := goodIn_app (goodIn_of _ (by decide +kernel)) ggX0_bestHeat_X0_widen
theorem dX0_bestHeat_0 : decode cX0_bestHeat 0 = .ok (.aload_n 0, 1) := by decide +kernel
theorem dX0_bestHeat_1 : decode cX0_bestHeat 1 = .ok (.iload_n 1, 1) := by decide +kernel
theorem dX0_bestHeat_2 : decode cX0_bestHeat 2 = .ok (.iconst 0, 1) := by decide +kernel
theorem dX0_bestHeat_3 : decode cX0_bestHeat 3 = .ok (.invokevirtual 70, 3) := by decide +kernel
theorem dX0_bestHeat_6 : decode cX0_bestHeat 6 = .ok (.aload_n 0, 1) := by decide +kernel
theorem dX0_bestHeat_7 : decode cX0_bestHeat 7 = .ok (.invokevirtual 74, 3) := by decide +kernel
theorem dX0_bestHeat_10 : decode cX0_bestHeat 10 = .ok (.bipush 7, 2) := by decide +kernel
theorem dX0_bestHeat_12 : decode cX0_bestHeat 12 = .ok (.aload_n 0, 1) := by decide +kernel
theorem dX0_bestHeat_13 : decode cX0_bestHeat 13 = .ok (.getfield 11, 3) := by decide +kernel
theorem dX0_bestHeat_16 : decode cX0_bestHeat 16 = .ok (.invokevirtual 54, 3) := by decide +kernel
theorem dX0_bestHeat_19 : decode cX0_bestHeat 19 = .ok (.invokestatic 84, 3) := by decide +kernel
theorem dX0_bestHeat_22 : decode cX0_bestHeat 22 = .ok (.istore_n 2, 1) := by decide +kernel
theorem dX0_bestHeat_23 : decode cX0_bestHeat 23 = .ok (.iconst 1, 1) := by decide +kernel
theorem dX0_bestHeat_24 : decode cX0_bestHeat 24 = .ok (.iload_n 2, 1) := by decide +kernel
theorem dX0_bestHeat_25 : decode cX0_bestHeat 25 = .ok (.ishl, 1) := by decide +kernel
theorem dX0_bestHeat_26 : decode cX0_bestHeat 26 = .ok (.istore_n 3, 1) := by decide +kernel
theorem dX0_bestHeat_27 : decode cX0_bestHeat 27 = .ok (.aload_n 0, 1) := by decide +kernel
theorem dX0_bestHeat_28 : decode cX0_bestHeat 28 = .ok (.iload_n 2, 1) := by decide +kernel
theorem dX0_bestHeat_29 : decode cX0_bestHeat 29 = .ok (.invokevirtual 89, 3) := by decide +kernel
theorem dX0_bestHeat_32 : decode cX0_bestHeat 32 = .ok (.iconst 0, 1) := by decide +kernel
theorem dX0_bestHeat_33 : decode cX0_bestHeat 33 = .ok (.istore 4, 2) := by decide +kernel
theorem dX0_bestHeat_35 : decode cX0_bestHeat 35 = .ok (.iload 4, 2) := by decide +kernel
theorem dX0_bestHeat_37 : decode cX0_bestHeat 37 = .ok (.iload_n 3, 1) := by decide +kernel
theorem dX0_bestHeat_38 : decode cX0_bestHeat 38 = .ok (.if_icmp .ge 26, 3) := by decide +kernel
theorem dX0_bestHeat_41 : decode cX0_bestHeat 41 = .ok (.aload_n 0, 1) := by decide +kernel
theorem dX0_bestHeat_42 : decode cX0_bestHeat 42 = .ok (.getfield 46, 3) := by decide +kernel
theorem dX0_bestHeat_45 : decode cX0_bestHeat 45 = .ok (.iload 4, 2) := by decide +kernel
theorem dX0_bestHeat_47 : decode cX0_bestHeat 47 = .ok (.iload 4, 2) := by decide +kernel
theorem dX0_bestHeat_49 : decode cX0_bestHeat 49 = .ok (.ifCond .ne 7, 3) := by decide +kernel
theorem dX0_bestHeat_52 : decode cX0_bestHeat 52 = .ok (.iconst 1, 1) := by decide +kernel
theorem dX0_bestHeat_53 : decode cX0_bestHeat 53 = .ok (.goto 4, 3) := by decide +kernel
theorem dX0_bestHeat_56 : decode cX0_bestHeat 56 = .ok (.iconst 0, 1) := by decide +kernel
theorem dX0_bestHeat_57 : decode cX0_bestHeat 57 = .ok (.bastore, 1) := by decide +kernel
theorem dX0_bestHeat_58 : decode cX0_bestHeat 58 = .ok (.iinc 4 1, 3) := by decide +kernel
theorem dX0_bestHeat_61 : decode cX0_bestHeat 61 = .ok (.goto (-26), 3) := by decide +kernel
theorem dX0_bestHeat_64 : decode cX0_bestHeat 64 = .ok (.iconst 0, 1) := by decide +kernel
theorem dX0_bestHeat_65 : decode cX0_bestHeat 65 = .ok (.istore 4, 2) := by decide +kernel
theorem dX0_bestHeat_67 : decode cX0_bestHeat 67 = .ok (.iload 4, 2) := by decide +kernel
theorem dX0_bestHeat_69 : decode cX0_bestHeat 69 = .ok (.iconst 4, 1) := by decide +kernel
theorem dX0_bestHeat_70 : decode cX0_bestHeat 70 = .ok (.if_icmp .ge 21, 3) := by decide +kernel
theorem dX0_bestHeat_73 : decode cX0_bestHeat 73 = .ok (.aload_n 0, 1) := by decide +kernel
theorem dX0_bestHeat_74 : decode cX0_bestHeat 74 = .ok (.iload_n 3, 1) := by decide +kernel
theorem dX0_bestHeat_75 : decode cX0_bestHeat 75 = .ok (.aload_n 0, 1) := by decide +kernel
theorem dX0_bestHeat_76 : decode cX0_bestHeat 76 = .ok (.getfield 15, 3) := by decide +kernel
theorem dX0_bestHeat_79 : decode cX0_bestHeat 79 = .ok (.iload 4, 2) := by decide +kernel
theorem dX0_bestHeat_81 : decode cX0_bestHeat 81 = .ok (.iaload, 1) := by decide +kernel
theorem dX0_bestHeat_82 : decode cX0_bestHeat 82 = .ok (.invokevirtual 93, 3) := by decide +kernel
theorem dX0_bestHeat_85 : decode cX0_bestHeat 85 = .ok (.iinc 4 1, 3) := by decide +kernel
theorem dX0_bestHeat_88 : decode cX0_bestHeat 88 = .ok (.goto (-21), 3) := by decide +kernel
theorem dX0_bestHeat_91 : decode cX0_bestHeat 91 = .ok (.iconst 0, 1) := by decide +kernel
theorem dX0_bestHeat_92 : decode cX0_bestHeat 92 = .ok (.istore 4, 2) := by decide +kernel
theorem dX0_bestHeat_94 : decode cX0_bestHeat 94 = .ok (.iconst 0, 1) := by decide +kernel
theorem dX0_bestHeat_95 : decode cX0_bestHeat 95 = .ok (.istore 5, 2) := by decide +kernel
theorem dX0_bestHeat_97 : decode cX0_bestHeat 97 = .ok (.iload 5, 2) := by decide +kernel
theorem dX0_bestHeat_99 : decode cX0_bestHeat 99 = .ok (.iload_n 3, 1) := by decide +kernel
theorem dX0_bestHeat_100 : decode cX0_bestHeat 100 = .ok (.if_icmp .ge 33, 3) := by decide +kernel
theorem dX0_bestHeat_103 : decode cX0_bestHeat 103 = .ok (.aload_n 0, 1) := by decide +kernel
theorem dX0_bestHeat_104 : decode cX0_bestHeat 104 = .ok (.getfield 46, 3) := by decide +kernel
theorem dX0_bestHeat_107 : decode cX0_bestHeat 107 = .ok (.iload 5, 2) := by decide +kernel
theorem dX0_bestHeat_109 : decode cX0_bestHeat 109 = .ok (.baload, 1) := by decide +kernel
theorem dX0_bestHeat_110 : decode cX0_bestHeat 110 = .ok (.ifCond .eq 17, 3) := by decide +kernel
theorem dX0_bestHeat_113 : decode cX0_bestHeat 113 = .ok (.iload 4, 2) := by decide +kernel
theorem dX0_bestHeat_115 : decode cX0_bestHeat 115 = .ok (.aload_n 0, 1) := by decide +kernel
theorem dX0_bestHeat_116 : decode cX0_bestHeat 116 = .ok (.getfield 43, 3) := by decide +kernel
theorem dX0_bestHeat_119 : decode cX0_bestHeat 119 = .ok (.iload 5, 2) := by decide +kernel
theorem dX0_bestHeat_121 : decode cX0_bestHeat 121 = .ok (.iaload, 1) := by decide +kernel
theorem dX0_bestHeat_122 : decode cX0_bestHeat 122 = .ok (.invokestatic 96, 3) := by decide +kernel
theorem dX0_bestHeat_125 : decode cX0_bestHeat 125 = .ok (.istore 4, 2) := by decide +kernel
theorem dX0_bestHeat_127 : decode cX0_bestHeat 127 = .ok (.iinc 5 1, 3) := by decide +kernel
theorem dX0_bestHeat_130 : decode cX0_bestHeat 130 = .ok (.goto (-33), 3) := by decide +kernel
theorem dX0_bestHeat_133 : decode cX0_bestHeat 133 = .ok (.iload 4, 2) := by decide +kernel
theorem dX0_bestHeat_135 : decode cX0_bestHeat 135 = .ok (.ireturn, 1) := by decide +kernel
theorem dX0_addUpSets_0 : decode cX0_addUpSets 0 = .ok (.aload_n 0, 1) := by decide +kernel
theorem dX0_addUpSets_1 : decode cX0_addUpSets 1 = .ok (.getfield 43, 3) := by decide +kernel
theorem dX0_addUpSets_4 : decode cX0_addUpSets 4 = .ok (.iconst 0, 1) := by decide +kernel
theorem dX0_addUpSets_5 : decode cX0_addUpSets 5 = .ok (.iconst 0, 1) := by decide +kernel
theorem dX0_addUpSets_6 : decode cX0_addUpSets 6 = .ok (.iastore, 1) := by decide +kernel
theorem dX0_addUpSets_7 : decode cX0_addUpSets 7 = .ok (.iconst 0, 1) := by decide +kernel
theorem dX0_addUpSets_8 : decode cX0_addUpSets 8 = .ok (.istore_n 2, 1) := by decide +kernel
theorem dX0_addUpSets_9 : decode cX0_addUpSets 9 = .ok (.iload_n 2, 1) := by decide +kernel
theorem dX0_addUpSets_10 : decode cX0_addUpSets 10 = .ok (.iload_n 1, 1) := by decide +kernel
theorem dX0_addUpSets_11 : decode cX0_addUpSets 11 = .ok (.if_icmp .ge 56, 3) := by decide +kernel
theorem dX0_addUpSets_14 : decode cX0_addUpSets 14 = .ok (.iconst 1, 1) := by decide +kernel
theorem dX0_addUpSets_15 : decode cX0_addUpSets 15 = .ok (.iload_n 2, 1) := by decide +kernel
theorem dX0_addUpSets_16 : decode cX0_addUpSets 16 = .ok (.ishl, 1) := by decide +kernel
theorem dX0_addUpSets_17 : decode cX0_addUpSets 17 = .ok (.istore_n 3, 1) := by decide +kernel
theorem dX0_addUpSets_18 : decode cX0_addUpSets 18 = .ok (.iconst 0, 1) := by decide +kernel
theorem dX0_addUpSets_19 : decode cX0_addUpSets 19 = .ok (.istore 4, 2) := by decide +kernel
theorem dX0_addUpSets_21 : decode cX0_addUpSets 21 = .ok (.iload 4, 2) := by decide +kernel
theorem dX0_addUpSets_23 : decode cX0_addUpSets 23 = .ok (.iload_n 3, 1) := by decide +kernel
theorem dX0_addUpSets_24 : decode cX0_addUpSets 24 = .ok (.if_icmp .ge 37, 3) := by decide +kernel
theorem dX0_addUpSets_27 : decode cX0_addUpSets 27 = .ok (.aload_n 0, 1) := by decide +kernel
theorem dX0_addUpSets_28 : decode cX0_addUpSets 28 = .ok (.getfield 43, 3) := by decide +kernel
theorem dX0_addUpSets_31 : decode cX0_addUpSets 31 = .ok (.iload 4, 2) := by decide +kernel
theorem dX0_addUpSets_33 : decode cX0_addUpSets 33 = .ok (.iload_n 3, 1) := by decide +kernel
theorem dX0_addUpSets_34 : decode cX0_addUpSets 34 = .ok (.ior, 1) := by decide +kernel
theorem dX0_addUpSets_35 : decode cX0_addUpSets 35 = .ok (.aload_n 0, 1) := by decide +kernel
theorem dX0_addUpSets_36 : decode cX0_addUpSets 36 = .ok (.getfield 43, 3) := by decide +kernel
theorem dX0_addUpSets_39 : decode cX0_addUpSets 39 = .ok (.iload 4, 2) := by decide +kernel
theorem dX0_addUpSets_41 : decode cX0_addUpSets 41 = .ok (.iaload, 1) := by decide +kernel
theorem dX0_addUpSets_42 : decode cX0_addUpSets 42 = .ok (.aload_n 0, 1) := by decide +kernel
theorem dX0_addUpSets_43 : decode cX0_addUpSets 43 = .ok (.getfield 28, 3) := by decide +kernel
theorem dX0_addUpSets_46 : decode cX0_addUpSets 46 = .ok (.aload_n 0, 1) := by decide +kernel
theorem dX0_addUpSets_47 : decode cX0_addUpSets 47 = .ok (.getfield 25, 3) := by decide +kernel
theorem dX0_addUpSets_50 : decode cX0_addUpSets 50 = .ok (.iload_n 2, 1) := by decide +kernel
theorem dX0_addUpSets_51 : decode cX0_addUpSets 51 = .ok (.iaload, 1) := by decide +kernel
theorem dX0_addUpSets_52 : decode cX0_addUpSets 52 = .ok (.iaload, 1) := by decide +kernel
theorem dX0_addUpSets_53 : decode cX0_addUpSets 53 = .ok (.iadd, 1) := by decide +kernel
theorem dX0_addUpSets_54 : decode cX0_addUpSets 54 = .ok (.iastore, 1) := by decide +kernel
theorem dX0_addUpSets_55 : decode cX0_addUpSets 55 = .ok (.iinc 4 1, 3) := by decide +kernel
theorem dX0_addUpSets_58 : decode cX0_addUpSets 58 = .ok (.goto (-37), 3) := by decide +kernel
theorem dX0_addUpSets_61 : decode cX0_addUpSets 61 = .ok (.iinc 2 1, 3) := by decide +kernel
theorem dX0_addUpSets_64 : decode cX0_addUpSets 64 = .ok (.goto (-55), 3) := by decide +kernel
theorem dX0_addUpSets_67 : decode cX0_addUpSets 67 = .ok (.return_, 1) := by decide +kernel
theorem dX0_widen_0 : decode cX0_widen 0 = .ok (.iload_n 1, 1) := by decide +kernel
theorem dX0_widen_1 : decode cX0_widen 1 = .ok (.iconst 1, 1) := by decide +kernel
theorem dX0_widen_2 : decode cX0_widen 2 = .ok (.isub, 1) := by decide +kernel
theorem dX0_widen_3 : decode cX0_widen 3 = .ok (.istore_n 3, 1) := by decide +kernel
theorem dX0_widen_4 : decode cX0_widen 4 = .ok (.iload_n 3, 1) := by decide +kernel
theorem dX0_widen_5 : decode cX0_widen 5 = .ok (.ifCond .le 71, 3) := by decide +kernel
theorem dX0_widen_8 : decode cX0_widen 8 = .ok (.iload_n 3, 1) := by decide +kernel
theorem dX0_widen_9 : decode cX0_widen 9 = .ok (.istore 4, 2) := by decide +kernel
theorem dX0_widen_11 : decode cX0_widen 11 = .ok (.iload 4, 2) := by decide +kernel
theorem dX0_widen_13 : decode cX0_widen 13 = .ok (.ifCond .le 57, 3) := by decide +kernel
theorem dX0_widen_16 : decode cX0_widen 16 = .ok (.aload_n 0, 1) := by decide +kernel
theorem dX0_widen_17 : decode cX0_widen 17 = .ok (.getfield 46, 3) := by decide +kernel
theorem dX0_widen_20 : decode cX0_widen 20 = .ok (.iload_n 3, 1) := by decide +kernel
theorem dX0_widen_21 : decode cX0_widen 21 = .ok (.baload, 1) := by decide +kernel
theorem dX0_widen_22 : decode cX0_widen 22 = .ok (.ifCond .ne 48, 3) := by decide +kernel
theorem dX0_widen_25 : decode cX0_widen 25 = .ok (.aload_n 0, 1) := by decide +kernel
theorem dX0_widen_26 : decode cX0_widen 26 = .ok (.getfield 46, 3) := by decide +kernel
theorem dX0_widen_29 : decode cX0_widen 29 = .ok (.iload_n 3, 1) := by decide +kernel
theorem dX0_widen_30 : decode cX0_widen 30 = .ok (.aload_n 0, 1) := by decide +kernel
theorem dX0_widen_31 : decode cX0_widen 31 = .ok (.getfield 43, 3) := by decide +kernel
theorem dX0_widen_34 : decode cX0_widen 34 = .ok (.iload 4, 2) := by decide +kernel
theorem dX0_widen_36 : decode cX0_widen 36 = .ok (.iaload, 1) := by decide +kernel
theorem dX0_widen_37 : decode cX0_widen 37 = .ok (.iload_n 2, 1) := by decide +kernel
theorem dX0_widen_38 : decode cX0_widen 38 = .ok (.if_icmp .gt 19, 3) := by decide +kernel
theorem dX0_widen_41 : decode cX0_widen 41 = .ok (.aload_n 0, 1) := by decide +kernel
theorem dX0_widen_42 : decode cX0_widen 42 = .ok (.getfield 46, 3) := by decide +kernel
theorem dX0_widen_45 : decode cX0_widen 45 = .ok (.iload_n 3, 1) := by decide +kernel
theorem dX0_widen_46 : decode cX0_widen 46 = .ok (.iload 4, 2) := by decide +kernel
theorem dX0_widen_48 : decode cX0_widen 48 = .ok (.ixor, 1) := by decide +kernel
theorem dX0_widen_49 : decode cX0_widen 49 = .ok (.baload, 1) := by decide +kernel
theorem dX0_widen_50 : decode cX0_widen 50 = .ok (.ifCond .eq 7, 3) := by decide +kernel
theorem dX0_widen_53 : decode cX0_widen 53 = .ok (.iconst 1, 1) := by decide +kernel
theorem dX0_widen_54 : decode cX0_widen 54 = .ok (.goto 4, 3) := by decide +kernel
theorem dX0_widen_57 : decode cX0_widen 57 = .ok (.iconst 0, 1) := by decide +kernel
theorem dX0_widen_58 : decode cX0_widen 58 = .ok (.bastore, 1) := by decide +kernel
theorem dX0_widen_59 : decode cX0_widen 59 = .ok (.iload 4, 2) := by decide +kernel
theorem dX0_widen_61 : decode cX0_widen 61 = .ok (.iconst 1, 1) := by decide +kernel
theorem dX0_widen_62 : decode cX0_widen 62 = .ok (.isub, 1) := by decide +kernel
theorem dX0_widen_63 : decode cX0_widen 63 = .ok (.iload_n 3, 1) := by decide +kernel
theorem dX0_widen_64 : decode cX0_widen 64 = .ok (.iand, 1) := by decide +kernel
theorem dX0_widen_65 : decode cX0_widen 65 = .ok (.istore 4, 2) := by decide +kernel
theorem dX0_widen_67 : decode cX0_widen 67 = .ok (.goto (-56), 3) := by decide +kernel
theorem dX0_widen_70 : decode cX0_widen 70 = .ok (.iinc 3 (-1), 3) := by decide +kernel
theorem dX0_widen_73 : decode cX0_widen 73 = .ok (.goto (-69), 3) := by decide +kernel
theorem dX0_widen_76 : decode cX0_widen 76 = .ok (.return_, 1) := by decide +kernel
theorem dX1_init_0 : decode cX1_init 0 = .ok (.aload_n 0, 1) := by decide +kernel
theorem dX1_init_1 : decode cX1_init 1 = .ok (.invokespecial 3, 3) := by decide +kernel
theorem dX1_init_4 : decode cX1_init 4 = .ok (.aload_n 0, 1) := by decide +kernel
theorem dX1_init_5 : decode cX1_init 5 = .ok (.bipush 15, 2) := by decide +kernel
theorem dX1_init_7 : decode cX1_init 7 = .ok (.newarray .int, 2) := by decide +kernel
theorem dX1_init_9 : decode cX1_init 9 = .ok (.putfield 9, 3) := by decide +kernel
theorem dX1_init_12 : decode cX1_init 12 = .ok (.aload_n 0, 1) := by decide +kernel
theorem dX1_init_13 : decode cX1_init 13 = .ok (.bipush 40, 2) := by decide +kernel
theorem dX1_init_15 : decode cX1_init 15 = .ok (.newarray .int, 2) := by decide +kernel
theorem dX1_init_17 : decode cX1_init 17 = .ok (.putfield 15, 3) := by decide +kernel
theorem dX1_init_20 : decode cX1_init 20 = .ok (.aload_n 0, 1) := by decide +kernel
theorem dX1_init_21 : decode cX1_init 21 = .ok (.bipush 40, 2) := by decide +kernel
theorem dX1_init_23 : decode cX1_init 23 = .ok (.newarray .int, 2) := by decide +kernel
