/** The lake: texts, boats, winds, isles; promises 1 to 5. */
final class LakeChapter extends Chapter {
    /** As long as a text can be, and behind it which codes go on at each place of it. */
    private static final String LONGEST = "w4010;>><.<>..><,b01,o12,t03";
    private static final String[] GO_ON = goOn();

    static void read() {
        terms();
        says("A LAKE by a TEXT: w, a digit 2 .. 4 (WIDE: CELLS are 0 .. WIDE; 0 and WIDE are the shores),", LakeChapter::wide);
        says("then for each CELL between a digit 0, 1 (1: an ISLE),", LakeChapter::islesOfText);
        says("then ; and 1 to 10 WINDS, HOUR by HOUR from 0 on, each: > or < or . (1: to higher CELLS; 2: to lower ones; 0: calm),",
            LakeChapter::windsOfText);
        says("then 1 to 3 BOATS, numbered from 0 on, each: , and a letter, a digit 0, 1 (FROM the shore at CELL 0, at CELL WIDE), "
            + "a digit 1 .. 3 (FAST).", LakeChapter::boatsOfText);
        says("FIRST FAULT: the place (from 0 on) of the first code with which no TEXT goes on", LakeChapter::placeOfFirstFault);
        says("(an eleventh WIND, the , of a fourth BOAT);", LakeChapter::eleventhWindFourthBoat);
        says("how many codes there are, if it just ends too soon.", LakeChapter::endsTooSoon);
        says("(Codes: w 119, b 98, o 111, t 116, > 62, < 60, . 46, ; 59, comma 44, digits 48 .. 57.)", LakeChapter::codes);
        says("Kinds: 0 BOAT (b); 1 OARED (o), a BOAT; 2 TOWED (t), an OARED.", LakeChapter::kindsOfText);
        says("A TEXT that is taken makes all anew: no READINGS.", LakeChapter::allAnew);
        says("Each BOAT goes to the other shore; there it is OVER.", LakeChapter::toTheOtherShore);
        says("GOES, so many CELLS an HOUR: a BOAT as FAST as it is; an OARED one against the wind 1 more; a TOWED one as a BOAT.",
            LakeChapter::cellsAnHour);
        says("COUNTS: a BOAT is one; so is an OARED one; a TOWED one is none.", LakeChapter::counts);
        promise(1);
        says("No LAKE (no BOATS), SHEETS have nothing.", LakeChapter::newObject);
        promise(2);
        says("A LAKE by a TEXT of n cells of a SHEET from i on, taken as a row of a LANE: how many BOATS;", LakeChapter::cellsFromOn);
        says("-100 less the FIRST FAULT.", LakeChapter::lessTheFirstFault);
        says("UNKNOWN; OUTSIDE: lane;", LakeChapter::noSheetNoLane);
        says("FAULTS CAST (nothing is no CAST), NULL, SIZE: n is below 0, INDEX: not all cells are there; -100 less it.",
            LakeChapter::faultsAheadOfTheText);
        promise(3);
        says("Of a BOAT: 0 kind, 1 FROM, 2 how FAST, 3 how many CELLS it GOES against the wind.", LakeChapter::ofBoats);
        says("UNKNOWN; OUTSIDE.", LakeChapter::ofNoBoat);
        promise(4);
        says("The WIND of an HOUR becomes v (0 .. 2): what it was.", LakeChapter::windBecomes);
        says("OUTSIDE: hour (one that there is), v;", LakeChapter::windOfNoHour);
        says("STATE: there is no LAKE (ahead of OUTSIDE).", LakeChapter::windWithoutLake);
        promise(5);
        says("CELL c has an ISLE (true), or not: 1; 0: it was so.", LakeChapter::isleComesAndGoes);
        says("STATE: there is no LAKE;", LakeChapter::isleWithoutLake);
        says("OUTSIDE: c is none between the shores.", LakeChapter::isleAtNoCellBetween);
    }

    private static String[] goOn() {
        String[] all = new String[LONGEST.length() + 1];
        String[] ahead = {"w", "234", "01", "01", "01", ";", "><."};
        String[] boat = {",", "bot", "01", "123"};
        for (int at = 0; at < LONGEST.length(); at++) {
            all[at] = at < 7 ? ahead[at] : at < 16 ? "><.," : boat[(at - 16) % 4];
        }
        all[LONGEST.length()] = "";
        return all;
    }

    private static void wide() {
        String[] texts = {"w20;>,b01", "w300;>,b01", "w4000;>,b01"};
        for (int wide = 2; wide <= 4; wide++) {
            LakeWind x = at(texts[wide - 2]);
            due("WIDE", x.many(1), wide);
            due("a reading at the shore WIDE", x.reading(0, 0, wide), 0);
            due("a reading beyond it", x.reading(0, 0, wide + 1), LakeWind.OUTSIDE);
            due("a reading at the shore 0", x.reading(0, 0, 0), 1);
            due("an isle between", x.isle(wide - 1, true), 1);
            due("none at the shore WIDE", x.isle(wide, true), LakeWind.OUTSIDE);
        }
        for (String digit : new String[] {"0", "1", "5", "6", "9", ":", "/"}) {
            due("w" + digit, lakeBy(at(ONE), "w" + digit + "000;>,b01"), -101);
        }
    }

    private static void islesOfText() {
        for (int isles = 0; isles < 8; isles++) {
            String digits = "" + (isles & 1) + (isles >> 1 & 1) + (isles >> 2);
            LakeWind x = at("w4" + digits + ";>,b01");
            for (int c = 1; c < 4; c++) {
                due("no change of an isle at " + c + " of " + digits, x.isle(c, (isles >> c - 1 & 1) == 1), 0);
            }
        }
        due("a digit too many, wide 2", lakeBy(at(ONE), "w200;>,b01"), -103);
        due("a digit too many, wide 3", lakeBy(at(ONE), "w3000;>,b01"), -104);
        due("a digit too many, wide 4", lakeBy(at(ONE), "w40000;>,b01"), -105);
        due("a digit too few, wide 2", lakeBy(at(ONE), "w2;>,b01"), -102);
        due("a digit too few, wide 3", lakeBy(at(ONE), "w30;>,b01"), -103);
        due("a digit too few, wide 4", lakeBy(at(ONE), "w400;>,b01"), -104);
        due("no digit 2", lakeBy(at(ONE), "w22;>,b01"), -102);
        due("no sign below 0", lakeBy(at(ONE), "w2/;>,b01"), -102);
    }

    private static void windsOfText() {
        String winds = "";
        for (int hours = 1; hours <= 10; hours++) {
            winds = winds + "><.".charAt(hours % 3);
            LakeWind x = at("w20;" + winds + ",b01");
            due("hours of " + winds, x.many(2), hours);
            for (int h = 0; h < hours; h++) {
                due("wind " + h + " of " + winds, x.wind(h, 0), winds.charAt(h) == '>' ? 1 : winds.charAt(h) == '<' ? 2 : 0);
            }
            due("no wind behind them", x.wind(hours, 0), LakeWind.OUTSIDE);
        }
        due("no wind at all", lakeBy(at(ONE), "w20;,b01"), -104);
        due("eleven", lakeBy(at(ONE), "w20;>>>>>>>>>>>,b01"), -114);
        due("no ;", lakeBy(at(ONE), "w20>,b01"), -103);
        due("> is to higher cells", planned(at("w4000;>>,b01"), 10, 1, 0), 2);
        due("< is to lower cells", planned(at("w4000;><,b01"), 10, 1, 0), 0);
        due(". is to none", planned(at("w4000;>.,b01"), 10, 1, 0), 1);
    }

    private static void boatsOfText() {
        String text = "w300;>";
        for (int boats = 1; boats <= 3; boats++) {
            text = text + "," + "bot".charAt(boats - 1) + boats % 2 + boats;
            LakeWind x = new LakeWind();
            due(text, lakeBy(x, text), boats);
            due("boats of " + text, x.many(0), boats);
            due("kind of the last", x.ofBoat(boats - 1, 0), boats - 1);
            due("FROM of the last", x.ofBoat(boats - 1, 1), boats % 2);
            due("where the last is", planned(x, 9 + boats), boats % 2 == 0 ? 0 : 3);
            due("FAST of the last", x.ofBoat(boats - 1, 2), boats);
            due("none behind it", x.ofBoat(boats, 0), LakeWind.UNKNOWN);
        }
        due("no boat", lakeBy(at(ONE), "w300;>"), -106);
        due("four boats", lakeBy(at(ONE), "w300;>,b01,b01,b01,b01"), -118);
        due("from 2", lakeBy(at(ONE), "w300;>,b21"), -108);
        due("from /", lakeBy(at(ONE), "w300;>,b/1"), -108);
        due("fast 0", lakeBy(at(ONE), "w300;>,b00"), -109);
        due("fast 4", lakeBy(at(ONE), "w300;>,b04"), -109);
    }

    /** At each place of the longest text each code: some go on, all others are the first fault. */
    private static void placeOfFirstFault() {
        for (int at = 0; at <= LONGEST.length(); at++) {
            for (int code = -1; code <= 127; code++) {
                LakeWind x = new LakeWind();
                write(x, 0, 0, LONGEST.substring(0, at) + "x");
                x.put(0, at, code);
                boolean goesOn = code > 0 && GO_ON[at].indexOf(code) >= 0;
                boolean isWhole = goesOn && (at == 19 || at == 23 || at == 27);
                int want = !goesOn ? -100 - at : isWhole ? (at - 15) / 4 : -101 - at;
                dueWithFault("code " + code + " at " + at, x, x.lake(0, 0, 0, at + 1), want, 0);
            }
        }
        due("what comes behind the first is not looked at", lakeBy(at(ONE), "w2x;;;;,"), -102);
    }

    private static void eleventhWindFourthBoat() {
        for (char wind : "><.".toCharArray()) {
            due("ten", lakeBy(at(ONE), "w20;>>>>>>>>>" + wind + ",b01"), 1);
            due("eleven, at the end", lakeBy(at(ONE), "w20;>>>>>>>>>>" + wind), -114);
            due("eleven", lakeBy(at(ONE), "w20;>>>>>>>>>>" + wind + ",b01"), -114);
        }
        due("the , of a fourth boat, at the end", lakeBy(at(ONE), "w20;>,b01,o01,t01,"), -117);
        due("the , of a fourth boat", lakeBy(at(ONE), "w20;>,b01,o01,t01,b01"), -117);
        due("three", lakeBy(at(ONE), "w20;>,b01,o01,t01"), 3);
    }

    private static void endsTooSoon() {
        for (int n = 0; n <= LONGEST.length(); n++) {
            LakeWind x = new LakeWind();
            write(x, 0, 0, LONGEST);
            boolean isWhole = n == 20 || n == 24 || n == 28;
            dueWithFault("the first " + n + " codes", x, x.lake(0, 0, 0, n), isWhole ? (n - 16) / 4 : -100 - n, 0);
        }
    }

    private static void codes() {
        LakeWind x = new LakeWind();
        int[] cells = {119, 52, 48, 49, 48, 59, 62, 60, 46, 44, 98, 48, 49, 44, 111, 49, 50, 44, 116, 48, 51};
        for (int lane = 0; lane < 3; lane++) {
            due("by numbers, lane " + lane, x.lake(2, lane, 0, fill(x, 2, lane, cells)), 3);
            due("kinds, lane " + lane, x.ofBoat(0, 0) + 10 * x.ofBoat(1, 0) + 100 * x.ofBoat(2, 0), 210);
        }
        for (int c = 0; c < cells.length; c++) {
            fill(x, 2, 0, cells);
            x.put(2, c, cells[c] + 256);
            due("a byte is cut to its code", x.lake(2, 0, 0, cells.length), 3);
            fill(x, 1, 1, cells);
            x.put(1, c, cells[c] + 256);
            due("a short of " + (cells[c] + 256), x.lake(1, 1, 0, cells.length), -100 - c);
            x = new LakeWind();
        }
    }

    private static void kindsOfText() {
        LakeWind x = at("w20;>,b01,o01,t01");
        for (int b = 0; b < 3; b++) {
            due("kind of " + b, x.ofBoat(b, 0), b);
            due(b + " is a boat", x.as(b, 0), 1);
            due(b + " as an oared one", x.as(b, 1), b >= 1 ? 1 : CAST);
            due(b + " as a towed one", x.as(b, 2), b == 2 ? 1 : CAST);
        }
        for (String letter : new String[] {"a", "c", "n", "p", "s", "u", "B", "w", "0"}) {
            due("letter " + letter, lakeBy(at(ONE), "w20;>," + letter + "01"), -106);
        }
    }

    private static void allAnew() {
        LakeWind x = at("w4111;>>>>,t03,t13,b01");
        for (int r = 0; r < 8; r++) {
            x.reading(0, r, 0);
        }
        due("full", x.reading(0, 0, 0), LakeWind.FULL);
        due("soonest", x.soonest(3), 2);
        due("another text", lakeBy(x, "w20;.<,b11"), 1);
        due("no readings", x.many(3), 0);
        due("none to take back", x.back(1), LakeWind.OUTSIDE);
        due("the first again", x.reading(0, 0, 1), 0);
        due("boats", x.many(0), 1);
        due("WIDE", x.many(1), 2);
        due("hours", x.many(2), 2);
        due("its own boat", x.ofBoat(0, 0), 0);
        due("no boat 1", x.ofBoat(1, 0), LakeWind.UNKNOWN);
        due("no set with boat 1", x.soonest(2), LakeWind.OUTSIDE);
        due("its own soonest", x.soonest(1), LakeWind.NONE);
        due("its own isles", x.isle(1, false), 0);
        due("its own winds", x.wind(0, 1), 0);
        due("the same text again", x.lake(0, 0, 0, 10), 1);
        due("a wind that was changed is as the text says", x.wind(0, 0), 0);
        due("no readings again", x.many(3), 0);
        x.reading(0, 0, 1);
        due("a text that is not taken", x.lake(0, 0, 0, 9), -109);
        due("leaves readings", x.many(3), 1);
        nothingOfFormerTexts();
    }

    private static void nothingOfFormerTexts() {
        LakeWind x = at("w4111;>>>>>>>>>>,b01,b01,b01");
        due("by the first", x.soonest(7), LakeWind.NONE);
        due("a second", lakeBy(x, "w4000;<<<<,b01,b01,b01"), 3);
        due("by the second", x.soonest(7), 4);
        due("a third", lakeBy(x, "w4000;>>,b02"), 1);
        due("by the third", x.soonest(1), 2);
        for (int c = 1; c <= 3; c++) {
            due("no isle of the first at " + c, x.isle(c, false), 0);
        }
        due("one that is not taken, with isles", lakeBy(x, "w4111;>>>>,b01,x"), -115);
        due("a fourth", lakeBy(x, "w4000;>>,b01"), 1);
        for (int c = 1; c <= 3; c++) {
            due("no isle of one that was not taken at " + c, x.isle(c, false), 0);
        }
        due("no boat of it", x.many(0), 1);
        due("no hour of it", x.many(2), 2);
    }

    private static void toTheOtherShore() {
        LakeWind x = at("w20;><<,b02,b12");
        due("neither is over at first", planned(x, 0), 0);
        due("the one from 0 is at first in", planned(x, 10), 0);
        due("the one from WIDE is at first in", planned(x, 11), 2);
        due("both are over", planned(x, 0, 3), 3);
        due("the one from 0 is over in", planned(x, 10, 3, 3, 0), 2);
        due("the one from WIDE is over in", planned(x, 11, 3, 3, 0), 0);
        due("nobody is over at the shore from which it comes", planned(at("w20;><<,b01"), 0, 1, 0, 0), 0);
    }

    private static void cellsAnHour() {
        for (int fast = 1; fast <= 3; fast++) {
            due("a boat with it", planned(at("w4000;>,b0" + fast), 10, 1), fast);
            due("a boat against it", planned(at("w4000;<,b0" + fast), 10, 1), fast);
            due("an oared one with it", planned(at("w4000;>,o0" + fast), 10, 1), fast);
            due("an oared one against it", planned(at("w4000;<,o0" + fast), 10, 1), fast + 1);
            due("a towed one with it", planned(at("w4000;>,t0" + fast), 10, 1), fast);
            due("a towed one against it", planned(at("w4000;<,t0" + fast), 10, 1), fast);
            due("down: a boat with it", planned(at("w4000;<,b1" + fast), 10, 1), 4 - fast);
            due("down: an oared one with it", planned(at("w4000;<,o1" + fast), 10, 1), 4 - fast);
            due("down: an oared one against it", planned(at("w4000;>,o1" + fast), 10, 1), 3 - fast);
            due("down: a towed one against it", planned(at("w4000;>,t1" + fast), 10, 1), 4 - fast);
        }
    }

    private static void counts() {
        String[] pairs = {"bb", "bo", "bt", "oo", "ot", "tt"};
        int[] fines = {2, 2, 0, 2, 0, 0};
        for (int p = 0; p < pairs.length; p++) {
            String text = "w4000;>,x01,y01".replace('x', pairs[p].charAt(0)).replace('y', pairs[p].charAt(1));
            due("fines of " + text, planned(at(text), 1, 3), fines[p]);
        }
    }

    private static void newObject() {
        LakeWind x = new LakeWind();
        for (int what = 0; what <= 3; what++) {
            due("many(" + what + ")", x.many(what), 0);
        }
        due("no boat 0", x.ofBoat(0, 0), LakeWind.UNKNOWN);
        due("no lake", x.wind(0, 0), LakeWind.STATE);
        due("no trace", x.trace(), 0);
        due("no fault", x.fault(), 0);
        for (int k = 0; k <= 3; k++) {
            dueWithFault("sheet " + k + " has nothing to put in", x, x.put(k, 0, 1), NULL, 1);
            dueWithFault("sheet " + k + " has nothing to tell", x, x.cell(k, 0, 0), LakeWind.LOST, 1);
            due("sheet " + k + " has nothing to lose", x.lose(k), 0);
        }
        at(THREE).sheet(1, 0, 5);
        due("another object's lake is not this one's", x.many(0), 0);
        due("another object's sheets are not this one's", x.lose(1), 0);
    }

    private static void cellsFromOn() {
        for (int lane = 0; lane < 3; lane++) {
            for (int ahead : new int[] {0, 1, 32}) {
                LakeWind x = new LakeWind();
                write(x, 3, lane, ",".repeat(ahead) + LONGEST + ",".repeat(32 - ahead));
                due("one boat from " + ahead, x.lake(3, lane, ahead, 20), 1);
                due("two boats from " + ahead, x.lake(3, lane, ahead, 24), 2);
                due("three boats from " + ahead, x.lake(3, lane, ahead, 28), 3);
                x.sheet(3, lane, 0);
                due("the lake stays when the row is gone", x.many(0), 3);
            }
        }
    }

    private static void lessTheFirstFault() {
        LakeWind x = at(ONE);
        write(x, 2, 0, "...w20;>,b01");
        due("at its first code", x.lake(2, 0, 0, 12), -100);
        due("told from the text's begin on", x.lake(2, 0, 3, 8), -108);
        due("another one from the text's begin on", x.lake(2, 0, 3, 1), -101);
        due("as far as it can be", lakeBy(x, LONGEST + ","), -128);
        due("no cells at all", x.lake(2, 0, 0, 0), -100);
    }

    private static void noSheetNoLane() {
        LakeWind x = new LakeWind();
        for (int lane = 0; lane < 3; lane++) {
            write(x, lane, lane, ONE);
        }
        for (int k : beyond(0, 3)) {
            dueWithFault("sheet " + k, x, x.lake(k, 0, 0, 9), LakeWind.UNKNOWN, 0);
            dueWithFault("sheet " + k + " ahead of the lane", x, x.lake(k, 3, 0, 9), LakeWind.UNKNOWN, 0);
        }
        for (int lane : beyond(0, 2)) {
            dueWithFault("lane " + lane, x, x.lake(0, lane, 0, 9), LakeWind.OUTSIDE, 0);
            dueWithFault("lane " + lane + " ahead of nothing", x, x.lake(3, lane, 0, 9), LakeWind.OUTSIDE, 0);
        }
    }

    private static void faultsAheadOfTheText() {
        LakeWind x = new LakeWind();
        write(x, 0, 0, "w20;>,x01");
        dueWithFault("cast, though n is below 0", x, x.lake(0, 1, 0, -1), CAST, 2);
        dueWithFault("nothing is no cast", x, x.lake(1, 1, 0, 9), NULL, 1);
        dueWithFault("nothing, though n is below 0", x, x.lake(1, 1, 0, -1), NULL, 1);
        for (int n : new int[] {-1, LEAST}) {
            dueWithFault("n " + n, x, x.lake(0, 0, 0, n), SIZE, 4);
            dueWithFault("n " + n + ", and i is below 0", x, x.lake(0, 0, -1, n), SIZE, 4);
        }
        for (int i : beyond(0, 9)) {
            dueWithFault("i " + i, x, x.lake(0, 0, i, 1), INDEX, 3);
        }
        dueWithFault("one too many", x, x.lake(0, 0, 0, 10), INDEX, 3);
        dueWithFault("one too far", x, x.lake(0, 0, 1, 9), INDEX, 3);
        dueWithFault("i and n wrap to 0", x, x.lake(0, 0, 1, MOST), INDEX, 3);
        dueWithFault("i and n wrap above 0", x, x.lake(0, 0, MOST, MOST), INDEX, 3);
        dueWithFault("at last the text", x, x.lake(0, 0, 0, 9), -106, 0);
        dueWithFault("the last cells", x, x.lake(0, 0, 8, 1), -100, 0);
    }

    private static void ofBoats() {
        for (int kind = 0; kind < 3; kind++) {
            for (int from = 0; from < 2; from++) {
                for (int fast = 1; fast <= 3; fast++) {
                    String boat = "bot".charAt(kind) + "" + from + fast;
                    LakeWind x = at("w20;>," + boat);
                    due("kind of " + boat, x.ofBoat(0, 0), kind);
                    due("FROM of " + boat, x.ofBoat(0, 1), from);
                    due("FAST of " + boat, x.ofBoat(0, 2), fast);
                    due("against the wind " + boat, x.ofBoat(0, 3), kind == 1 ? fast + 1 : fast);
                }
            }
        }
    }

    private static void ofNoBoat() {
        String[] texts = {"w20;>,b01", "w20;>,b01,o01", "w20;>,b01,o01,t01"};
        for (int boats = 1; boats <= 3; boats++) {
            LakeWind x = at(texts[boats - 1]);
            for (int b : beyond(0, boats - 1)) {
                due("boat " + b + " of " + boats, x.ofBoat(b, 0), LakeWind.UNKNOWN);
                due("boat " + b + " ahead of what", x.ofBoat(b, 4), LakeWind.UNKNOWN);
            }
            for (int what : beyond(0, 3)) {
                due("what " + what, x.ofBoat(boats - 1, what), LakeWind.OUTSIDE);
            }
        }
        due("no lake", new LakeWind().ofBoat(0, 0), LakeWind.UNKNOWN);
    }

    private static void windBecomes() {
        LakeWind x = at("w20;>>>>>>>>>>,b01");
        for (int h = 0; h < 10; h++) {
            due("hour " + h + " was >", x.wind(h, 0), 1);
            due("was calm", x.wind(h, 2), 0);
            due("was <", x.wind(h, 1), 2);
            due("was > again", x.wind(h, h % 3), 1);
        }
        for (int h = 0; h < 10; h++) {
            due("each hour has its own", x.wind(h, 0), h % 3);
        }
        LakeWind y = at("w20;>>,b02");
        due("soonest as it was", y.soonest(1), 1);
        y.wind(0, 0);
        due("soonest goes by it", y.soonest(1), 2);
        due("plans go by it", planned(y, 0, 1), 0);
    }

    private static void windOfNoHour() {
        for (int hours : new int[] {1, 10}) {
            LakeWind x = at("w20;" + ">".repeat(hours) + ",b01");
            for (int h : beyond(0, hours - 1)) {
                due("hour " + h + " of " + hours, x.wind(h, 0), LakeWind.OUTSIDE);
            }
            for (int v : beyond(0, 2)) {
                due("v " + v, x.wind(hours - 1, v), LakeWind.OUTSIDE);
            }
            due("it is as it was", x.wind(hours - 1, 1), 1);
        }
    }

    private static void windWithoutLake() {
        for (int h : new int[] {LEAST, -1, 0, 9, 10, MOST}) {
            for (int v : new int[] {LEAST, -1, 0, 2, 3, MOST}) {
                due("wind(" + h + ", " + v + ")", new LakeWind().wind(h, v), LakeWind.STATE);
            }
        }
    }

    private static void isleComesAndGoes() {
        LakeWind x = at("w4010;>>,b01");
        for (int c = 1; c <= 3; c++) {
            due("is as it was", x.isle(c, c == 2), 0);
            due("becomes another", x.isle(c, c != 2), 1);
            due("is so", x.isle(c, c != 2), 0);
            due("and back", x.isle(c, c == 2), 1);
        }
        due("without one it drifts", planned(x, 10, 1, 0), 2);
        x.isle(1, true);
        due("with one it stays", planned(x, 10, 1, 0), 1);
        due("soonest without isles", at("w300;>>.>>,b01,b01").soonest(3), 5);
        due("soonest with isles", at("w311;>>.>>,b01,b01").soonest(3), LakeWind.NONE);
        LakeWind y = at("w300;>>.>>,b01,b01");
        y.soonest(3);
        y.isle(1, true);
        y.isle(2, true);
        due("soonest when isles have come", y.soonest(3), LakeWind.NONE);
    }

    private static void isleWithoutLake() {
        for (int c : new int[] {LEAST, -1, 0, 1, 2, 4, MOST}) {
            due("isle(" + c + ", true)", new LakeWind().isle(c, true), LakeWind.STATE);
            due("isle(" + c + ", false)", new LakeWind().isle(c, false), LakeWind.STATE);
        }
    }

    private static void isleAtNoCellBetween() {
        String[] texts = {"w21;>,b01", "w311;>,b01", "w4111;>,b01"};
        for (int wide = 2; wide <= 4; wide++) {
            LakeWind x = at(texts[wide - 2]);
            for (int c : new int[] {LEAST, -31, -1, 0, wide, wide + 1, 33, MOST}) {
                due("isle at " + c + " of " + wide, x.isle(c, true), LakeWind.OUTSIDE);
                due("no isle at " + c + " of " + wide, x.isle(c, false), LakeWind.OUTSIDE);
            }
            due("isle at 1", x.isle(1, false), 1);
            due("isle at the last", x.isle(wide - 1, true), wide == 2 ? 1 : 0);
        }
    }
}
