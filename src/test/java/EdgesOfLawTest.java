/** The sentences about the law that name a boundary, one by one; LawTest has the law at large. */
public final class EdgesOfLawTest {
    private static final Due due = new Due();
    private static final String[] TEXTS = {
        "gl(1=1)", "p0-v*12345(!a<0&(r=1|w=1))", "g[l+c]/o%2(l>3|!!(v=0)&1<2);p7([a]*[r]=0)", "p99999(00000=0);gw(v>a)"};

    public static void main(String[] args) {
        textLength();
        placesOfFaults();
        anyByteAnywhere();
        cutOff();
        clauses();
        digits();
        openInConditions();
        openAgain();
        openInSums();
        bounds();
        wrapAround();
        dividedByNought();
        asMuchAsMatters();
        factsAtTheirEnds();
        noneHolds();
        due.end();
    }

    private static void law(String text, int want) {
        BellRibbons x = new BellRibbons();
        due.is(text, Due.law(x, text), want);
        due.is("clauses by " + text, x.count(2), Math.max(0, want));
        due.is("tape by " + text, x.count(3), 0);
    }

    /** A sum of so many signs, an odd number. */
    private static String sum(int signs) {
        return "1" + "+1".repeat(signs / 2);
    }

    private static void textLength() {
        due.says("THE LAW: a TEXT of at most 200 bytes, no blanks (none at first)");
        due.is("none at first", new BellRibbons().count(2), 0);
        for (int n = 190; n <= 200; n++) {
            String text = "g" + sum(n % 2 == 0 ? n - 7 : n - 6) + (n % 2 == 0 ? "(1=11)" : "(1=1)");
            due.is("signs of the text", text.length(), n);
            law(text, 1);
        }
        BellRibbons x = new BellRibbons();
        while (x.count(3) < 220) {
            x.feed(0x312B312B, 0x312B312B, 0x312B312B, 0x312B312B, 0x312B312B);
        }
        due.is("201 bytes", x.law(201), -1);
        due.is("the tape stays", x.count(3), 220);
        due.is("1 can't stand first", x.law(200), -1000);
        for (int place = 0; place <= 7; place++) {
            String text = "gl(1=1)";
            law(text.substring(0, place) + " " + text.substring(place), -1000 - place);
        }
    }

    private static void placesOfFaults() {
        due.says("a FAULT: -1000 times its number, less its place");
        law("g" + sum(199), -1200);
        law("g" + sum(197) + "+", -1199);
        law("g" + sum(197) + "((", -1200);
        law("g" + sum(191) + "+1123456", -2198);
        law("g" + sum(191) + "*[123456", -2199);
        law("g" + sum(191) + "+[[[[[[[", -5199);
        law("x", -1000);
        law("g", -1001);
    }

    private static void anyByteAnywhere() {
        due.says("FAULTS, the first from the left: 1 what can't stand there (the end, too)");
        BellRibbons x = new BellRibbons();
        int calls = 0;
        for (String text : TEXTS) {
            for (int place = 0; place < text.length(); place++) {
                for (char sign = 0; sign < 256; sign++) {
                    String other = text.substring(0, place) + sign + text.substring(place + 1);
                    int fault = PlainLaw.fault(other);
                    if (calls++ % 100 == 0) {
                        // an object is for 512 calls
                        x = new BellRibbons();
                    }
                    due.is(other, Due.law(x, other), fault != 0 ? fault : other.split(";").length);
                }
            }
        }
        for (char sign = 0; sign < 256; sign++) {
            law("" + sign, sign == 'g' || sign == 'p' ? -1001 : -1000);
            law("gl(1=1)" + sign, sign == ';' ? -1008 : -1007);
            boolean isE = "lcoarwv[0123456789".indexOf(sign) >= 0;
            law("g" + sign, isE ? -1002 : -1001);
            law("gl" + sign, "+-*/%(".indexOf(sign) >= 0 ? -1003 : -1002);
            law("gl(" + sign, isE || sign == '(' || sign == '!' ? -1004 : -1003);
            law("gl(l" + sign, "+-*/%<>=".indexOf(sign) >= 0 ? -1005 : -1004);
            law("gl(l=" + sign, isE ? -1006 : -1005);
            law("gl(l=l" + sign, sign == ')' ? 1 : "+-*/%&|".indexOf(sign) >= 0 ? -1007 : -1006);
            law("gl(!" + sign, isE || sign == '(' || sign == '!' ? -1005 : -1004);
            law("g[l" + sign, "+-*/%]".indexOf(sign) >= 0 ? -1004 : -1003);
            law("gl((l=l)" + sign, ")&|".indexOf(sign) < 0 ? -1008 : sign == ')' ? 1 : -1009);
        }
    }

    private static void cutOff() {
        due.says("1 what can't stand there (the end, too)");
        for (String text : TEXTS) {
            int whole = 0;
            for (int n = 1; n <= text.length(); n++) {
                String part = text.substring(0, n);
                boolean isWhole = n == text.length() || text.charAt(n) == ';';
                if (isWhole) {
                    whole++;
                }
                law(part, isWhole ? whole : -1000 - n);
            }
        }
    }

    private static void clauses() {
        due.says("CLAUSES (14 at most) with a ; (59) between two: a letter, E, and (C)");
        for (char sign = 0; sign < 256; sign++) {
            law("gl(1=1)" + sign + "pv(1=1)", sign == 59 ? 2 : -1007);
        }
        due.says("4 a 15th CLAUSE, at its letter (if that can stand there)");
        for (int n = 1; n <= 16; n++) {
            String text = "gl(1=1)" + ";pv(1=1)".repeat(n - 1);
            law(text, n <= 14 ? n : -4112);
            law(text + ";", n < 14 ? -1000 - 8 * n : n == 14 ? -1112 : -4112);
        }
        String fourteen = "gl(1=1)" + ";gl(1=1)".repeat(13);
        for (char sign = 0; sign < 256; sign++) {
            law(fourteen + ";" + sign, sign == 'g' || sign == 'p' ? -4112 : -1112);
        }
        law(fourteen + ";gx", -4112);
    }

    private static void digits() {
        due.says("2 a sixth digit, at it");
        String digits = "";
        for (int n = 1; n <= 9; n++) {
            digits += n % 10;
            law("g" + digits + "(1=1)", n <= 5 ? 1 : -2006);
            law("gl(1=" + digits + ")", n <= 5 ? 1 : -2010);
            law("gl(" + digits + "=1)", n <= 5 ? 1 : -2008);
            law("g[" + digits + "](1=1)", n <= 5 ? 1 : -2007);
            law("g" + "0".repeat(n) + "(1=1)", n <= 5 ? 1 : -2006);
        }
        law("g123456", -2006);
        law("g12345x", -1006);
        law("g12345", -1006);
        law("g12345+123456", -2012);
    }

    /** Of ( and ! these are open, in the first or the second E then so many [. */
    private static String nested(String open, int brackets, boolean isSecond) {
        String e = "[".repeat(brackets) + "l" + "]".repeat(brackets);
        return "gl(" + open + (isSecond ? "l=" + e : e + "=l") + ")".repeat(open.replace("!", "").length() + 1);
    }

    private static void openInConditions() {
        due.says("5 a seventh of ( [ ! that are open in one another, at it (the ( of the CLAUSE counts");
        for (int outer = 0; outer <= 8; outer++) {
            for (int bits = 0; bits < 1 << outer; bits++) {
                StringBuilder open = new StringBuilder();
                for (int k = 0; k < outer; k++) {
                    open.append((bits >> k & 1) != 0 ? '!' : '(');
                }
                for (int brackets = 0; brackets + outer <= 8; brackets++) {
                    boolean isDeep = outer + brackets > 5;
                    law(nested(open.toString(), brackets, false), isDeep ? -5008 : 1);
                    // in the second E l= stands ahead of the brackets
                    law(nested(open.toString(), brackets, true), !isDeep ? 1 : outer > 5 ? -5008 : -5010);
                }
            }
        }
    }

    private static void openAgain() {
        due.says("a ! is open till its PIECE ends");
        law("gl(!!!!!l=l&!!!!!l=l)", 1);
        law("gl(!!!!!l=l|!!!!!l=l)", 1);
        law("gl(!!!!(l=l)&!!!!(l=l))", 1);
        law("gl(!!!!(l=l&l=l)&[[[[[l]]]]]=l)", 1);
        law("gl(!!!!(!l=l))", -5008);
        law("gl(!!!!(l=l)&!!!!(!l=l))", -5018);
        law("gl((!!!!l=l&!!!!l=l)&!!!!!l=l)", 1);
        law("gl((!!!!l=l&!!!!!l=l))", -5016);
        law("gl(!!!(l=l&!l=l)|!!!(l=l&!!l=l))", -5026);
        law("gl(!!!!!l=l);g[[[[[[l]]]]]](!!!!!l=l)", 2);
        law("gl([[[[[l]]]]]=[[[[[l]]]]])", 1);
        law("gl([[[[[l]]]]]=[[[[[[l", -5020);
        law("gl(!!!!l=l+[l]*[l])", 1);
        law("gl(!!!!l=l+[l]*[[l]])", -5016);
    }

    private static void openInSums() {
        due.says("the E of a CLAUSE stands ahead of it");
        for (int n = 0; n <= 9; n++) {
            law("g" + "[".repeat(n) + "l" + "]".repeat(n) + "(1=1)", n <= 6 ? 1 : -5007);
            law("g" + "[".repeat(n) + "l" + "]".repeat(n) + "(" + "(".repeat(5) + "1=1" + ")".repeat(6), n <= 6 ? 1 : -5007);
            law("gl(1=1);p" + "[".repeat(n) + "l" + "]".repeat(n) + "(1=1)", n <= 6 ? 2 : -5015);
        }
        law("g[[[[[[l]]]]]]+[[[[[[l]]]]]](1=1)", 1);
        law("g[[[[[[l]]]]]]+[[[[[[[", -5021);
        // what can't stand there at all is no seventh
        law("g[[[[[[(", -1007);
        law("g[[[[[[!", -1007);
        law("gl((((((l=(", -1010);
        law("gl(((((([", -5008);
    }

    /** A red one of length 20 of person 5 at arm -3 of rod 1, which is wet; wind -7. */
    private static void answers(String text, int g, int p) {
        BellRibbons x = new BellRibbons();
        x.rod(0, 4);
        x.red(1, -3, 20, 5, 2);
        x.wet(1, true);
        x.wind(-7);
        due.is("no fault in " + text, Due.law(x, text) > 0, true);
        due.is("g by " + text, x.ribbon(0, 7), g);
        due.is("p by " + text, x.ribbon(0, 8), p);
        due.is("moment by " + text, x.rodIs(1, 1), -3 * g + p);
        due.is("load by " + text, x.rodIs(0, 0), g);
    }

    private static void bounds() {
        due.says("the E (beyond its bounds the bound): g how heavy a RIBBON is (0 to 999; none: its LENGTH)");
        int[] amounts = {-99999, -10000, -9999, -9998, -1000, -999, -2, -1, 0, 1, 2, 998, 999, 1000, 1001, 9998, 9999, 10000, 10001, 99999};
        for (int amount : amounts) {
            String e = amount < 0 ? "0-" + -amount : "" + amount;
            answers("g" + e + "(1=1)", Math.max(0, Math.min(999, amount)), 0);
        }
        due.says("p by how much the WIND pushes it (-9999 to 9999; none: 0)");
        for (int amount : amounts) {
            String e = amount < 0 ? "0-" + -amount : "" + amount;
            answers("p" + e + "(1=1)", 20, Math.max(-9999, Math.min(9999, amount)));
        }
    }

    private static void wrapAround() {
        due.says("All is reckoned with 32 bits, as the machine does");
        String max = "[65536*32767+65535]";
        String min = "[65536*32768]";
        holds(max + ">0", true);
        holds(min + "<0", true);
        holds(max + "+1=" + min, true);
        holds(min + "-1=" + max, true);
        holds("0-" + min + "=" + min, true);
        holds(min + "/[0-1]=" + min, true);
        holds(min + "%[0-1]=0", true);
        holds(max + "*2=0-2", true);
        holds(min + "*2=0", true);
        holds(min + "<" + max, true);
        holds(max + "-" + min + "=0-1", true);
        holds("65536*65536=0", true);
        holds("99999*99999=[14098*10000*10+65409]", true);
        holds("[0-7]/2=0-3", true);
        holds("[0-7]%2=0-1", true);
        holds("7%[0-2]=1", true);
        holds("7/[0-2]=0-3", true);
        due.says("from the left on");
        holds("10-3-2=5", true);
        holds("100/10/5=2", true);
        holds("100/10*5=50", true);
        holds("7%4*2=6", true);
        holds("2*7%4=2", true);
        holds("1+2*3-4/2=5", true);
    }

    private static void holds(String condition, boolean want) {
        answers("g1(" + condition + ");g2(1=1)", want ? 1 : 2, 0);
    }

    private static void dividedByNought() {
        due.says("what is divided by 0 is REFUSED: then a C does not hold, an E is 0.");
        String[] noughts = {"1/0", "1%0", "0/0", "0%0", "l/[c-1]", "l%[v+7]", "5+1/0", "1/0*0", "[1/0]", "7-[3%0]", "[0/0]*0"};
        for (String nought : noughts) {
            answers("g" + nought + "(1=1);g5(1=1)", 0, 0);
            answers("p" + nought + "(1=1);p5(1=1)", 20, 0);
            holds(nought + "=0", false);
            holds("0=" + nought, false);
            holds("!" + nought + "=0", false);
            holds(nought + "<1", false);
            holds(nought + ">0-1", false);
            holds("!(" + nought + "=0)", false);
            holds(nought + "=0|1=1", false);
            holds("1=2|" + nought + "=0|1=1", false);
            holds("1=1&" + nought + "=0", false);
        }
        answers("g7(1/0=0);g8(1/0=0);g9(2=2)", 9, 0);
        answers("g7(1/0=0)", 20, 0);
    }

    private static void asMuchAsMatters() {
        due.says("Of a C as much is asked, from the left, as matters.");
        holds("1=1|1/0=0", true);
        holds("1=2&1/0=0", false);
        holds("1=2&1/0=0|1=1", true);
        holds("!(1=2&1/0=0)", true);
        holds("!(1=1|1/0=0)", false);
        holds("(1=1|1/0=0)&2=2", true);
        holds("1=1|2=2&1/0=0", true);
        holds("(1=2&1/0=0)|(3=3|1/0=0)", true);
        holds("!1=1&1/0=0|4=4", true);
        holds("1=1&2=2&!3=3&1/0=0|5=5|1/0=0", true);
        due.says("of the first one of a letter whose C holds the E");
        answers("g3(1=2);g4(2=2);g5(1/0=1);g6(3=3)", 4, 0);
        answers("p3(1=2);g8(1=1);p4(2=2);g9(2=2);p5(3=3)", 8, 4);
    }

    private static void factsAtTheirEnds() {
        due.says("l LENGTH, c COLOUR, o OWNER, a its ARM, r its ROD, w whether that is WET (1, 0), v the WIND");
        for (int k = 0; k < 10; k++) {
            BellRibbons x = new BellRibbons();
            while (x.count(0) < 10) {
                x.rod(0, 0);
            }
            boolean isRed = k % 2 == 1;
            int owner = k % 8;
            int length = 1 + 98 * k / 9;
            if (isRed) {
                x.red(k, 2 * k - 9, length, owner, (k + 1) % 8);
            } else {
                x.white(k, 2 * k - 9, length, owner);
            }
            x.wet(k, k % 3 == 0);
            x.wet((k + 1) % 10, k % 3 != 0);
            x.wind(9 - 2 * k);
            int[] facts = {length, isRed ? 1 : 0, owner, 2 * k - 9, k, k % 3 == 0 ? 1 : 0, 9 - 2 * k};
            for (int m = 0; m < 7; m++) {
                Due.law(x, "p" + "lcoarwv".charAt(m) + "(1=1)");
                due.is("lcoarwv".charAt(m) + " of ribbon on rod " + k, x.ribbon(0, 8), facts[m]);
            }
        }
    }

    private static void noneHolds() {
        due.says("g how heavy a RIBBON is (0 to 999; none: its LENGTH)");
        for (int length = 1; length <= 99; length++) {
            BellRibbons x = new BellRibbons();
            x.white(0, 1, length, 0);
            due.is("without law", x.ribbon(0, 7), length);
            Due.law(x, "g500(l>99);p500(l<1)");
            due.is("none holds, g", x.ribbon(0, 7), length);
            due.is("none holds, p", x.ribbon(0, 8), 0);
            due.is("none holds, moment", x.rodIs(0, 1), length);
        }
    }
}
