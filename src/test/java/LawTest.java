import java.util.Random;

/** Promise 10 and the law's terms: faults and their places, and what the clauses answer. */
public final class LawTest {
    private static final Due due = new Due();

    public static void main(String[] args) {
        rightTexts();
        faultsOfPlace();
        faultsOfLimits();
        theTape();
        clauses();
        reckoning();
        refusals();
        conditions();
        facts();
        drawnTexts();
        due.end();
    }

    private static void fault(String text, int want) {
        BellRibbons x = new BellRibbons();
        due.is("law of " + text, Due.law(x, text), want);
        due.is("tape after " + text, x.count(3), 0);
        due.is("clauses after " + text, x.count(2), Math.max(0, want));
    }

    private static void rightTexts() {
        fault("gl(1=1)", 1);
        fault("g[l](1=1)", 1);
        fault("p0-v*l(!a<0&(r=1|w=1))", 1);
        fault("gl(1=1);p1(2>1);g2(1<2)", 3);
        fault("g00000(99999=0)", 1);
        fault("gl+c-o*a/r%w+v(l=1)", 1);
    }

    private static void faultsOfPlace() {
        fault("x", -1000);
        fault("g", -1001);
        fault(";", -1000);
        fault("G", -1000);
        fault("gl", -1002);
        fault("g(1=1)", -1001);
        fault("g-1(1=1)", -1001);
        fault("gl()", -1003);
        fault("gl(1)", -1004);
        fault("gl(1=)", -1005);
        fault("gl(1=1", -1006);
        fault("gl(1==1)", -1005);
        fault("gl(1=1=1)", -1006);
        fault("gl(1=1))", -1007);
        fault("gl(1=1);", -1008);
        fault("gl(1=1);;", -1008);
        fault("gl(1=1)gl(1=1)", -1007);
        fault("g l(1=1)", -1001);
        fault("gl (1=1)", -1002);
        fault("gll(1=1)", -1002);
        fault("gl((1)=1)", -1005);
        fault("gl(1=(1))", -1005);
        fault("gl([1=1])", -1005);
        fault("gl([1]=1]", -1008);
        fault("g[l(1=1)", -1003);
        fault("gl](1=1)", -1002);
        fault("gl(1=1|)", -1007);
        fault("gl(|1=1)", -1003);
        fault("gl(1=1&&1=1)", -1007);
        fault("gl(1!=1)", -1004);
        fault("gl(!)", -1004);
        fault("gl(1=1!)", -1006);
        fault("gz(1=1)", -1001);
        fault("g12345l(1=1)", -1006);
        fault("gl((1=1)", -1008);
        fault("gl((1=1)=1)", -1008);
        fault("gl(1=1)" + (char) 0, -1007);
        fault("gl" + (char) 0xE9 + "(1=1)", -1002);
    }

    private static void faultsOfLimits() {
        fault("g123456(1=1)", -2006);
        fault("g1234567(1=1)", -2006);
        fault("gl(000000=0)", -2008);
        StringBuilder many = new StringBuilder("gl(1=1)");
        for (int k = 1; k < 14; k++) {
            many.append(";gl(1=1)");
        }
        fault(many.toString(), 14);
        fault(many + ";", -1000 - 112);
        fault(many + ";gl(1=1)", -4000 - 112);
        fault(many + ";p", -4000 - 112);
        fault(many + ";x", -1000 - 112);
        fault("g[[[[[[l]]]]]](1=1)", 1);
        fault("g[[[[[[[l]]]]]]](1=1)", -5007);
        fault("gl((((((1=1))))))", 1);
        fault("gl(((((((1=1)))))))", -5008);
        fault("gl(!!!!!1=1)", 1);
        fault("gl(!!!!!!1=1)", -5008);
        fault("gl(!!!!![1]=1)", -5008);
        fault("gl(!!!!1=[1])", 1);
        fault("gl(!!!!!1=1&!!!!!1=1|!!!!!1=1)", 1);
        fault("gl(!!!!(1=1)&((((([1]=1))))))", -5018);
        fault("gl(!(!(!1=1&!1=1)|!1=1))", 1);
        fault("gl(!(!(!1=1&!(1=1))|!1=1))", -5013);
        fault("g[[[[[[l]]]]]](!!!!!1=1)", 1);
        fault("gl([[[[[1]]]]]=1)", 1);
        fault("gl([[[[[[1]]]]]]=1)", -5008);
        fault("gl(1=1);g[[[[[[[l", -5015);
    }

    private static void theTape() {
        BellRibbons x = new BellRibbons();
        due.is("law(1) of an empty tape", x.law(1), -1);
        Due.feed(x, 'g', 'l', '(', '1', '=', '1', ')');
        due.is("law(0)", x.law(0), -1);
        due.is("law(-1)", x.law(-1), -1);
        due.is("law(21)", x.law(21), -1);
        due.is("law(201)", x.law(201), -1);
        due.is("law(max)", x.law(Integer.MAX_VALUE), -1);
        due.is("tape stays", x.count(3), 20);
        due.is("law(7)", x.law(7), 1);
        due.is("tape is empty", x.count(3), 0);
        x.white(0, 1, 5, 0);
        due.is("a fault", Due.law(x, "g9(1=1);g"), -1009);
        due.is("the one before stays", x.count(2), 1);
        due.is("and answers", x.ribbon(0, 7), 5);
        due.is("another", Due.law(x, "g9(1=1);p3(1=1)"), 2);
        due.is("in its place", x.ribbon(0, 7), 9);
        StringBuilder longest = new StringBuilder("gl");
        while (longest.length() < 194) {
            longest.append("+l");
        }
        due.is("200 bytes", Due.law(x, longest + "(1=01)"), 1);
        due.is("all of them matter", x.ribbon(0, 7), 97 * 5);
        while (x.count(3) < 220) {
            x.feed(0, 0, 0, 0, 0);
        }
        due.is("law(201) of 220", x.law(201), -1);
        due.is("law(200) of noughts", x.law(200), -1000);
    }

    /** How heavy ribbon 0 is and by how much it is pushed, by a law. */
    private static void answers(String text, int g, int p) {
        BellRibbons x = new BellRibbons();
        x.rod(0, 4);
        x.red(1, -3, 20, 5, 2);
        x.wet(1, true);
        x.wind(-7);
        if (!text.isEmpty()) {
            due.is("no fault in " + text, Due.law(x, text) > 0, true);
        }
        due.is("g by " + text, x.ribbon(0, 7), g);
        due.is("p by " + text, x.ribbon(0, 8), p);
    }

    private static void clauses() {
        answers("", 20, 0);
        answers("g7(1=2)", 20, 0);
        answers("p7(1=2)", 20, 0);
        answers("g7(1=1)", 7, 0);
        answers("p7(1=1)", 20, 7);
        answers("g7(1=2);g8(1=1);g9(1=1)", 8, 0);
        answers("p1(l<20);g1(l<20);p2(l=20);g2(l=20);p3(1=1);g3(1=1)", 2, 2);
        answers("g999(1=1);p9999(1=1)", 999, 9999);
        answers("g1000(1=1);p10000(1=1)", 999, 9999);
        answers("g0-1(1=1);p0-10000(1=1)", 0, -9999);
        answers("g0(1=1);p0-9999(1=1)", 0, -9999);
    }

    private static void reckoning() {
        answers("g2+3*4(1=1)", 14, 0);
        answers("g[2+3]*4(1=1)", 20, 0);
        answers("g20-5-3(1=1)", 12, 0);
        answers("g100/7/2(1=1)", 7, 0);
        answers("g100/[7/2](1=1)", 33, 0);
        answers("g100%7*3(1=1)", 6, 0);
        answers("p[0-7]/2(1=1)", 20, -3);
        answers("p[0-7]%4(1=1)", 20, -3);
        answers("p7%[0-4](1=1)", 20, 3);
        answers("g12345%1000(1=1)", 345, 0);
        answers("p99999*99999(1=1)", 20, 9999);
        answers("p65536*32768(1=1)", 20, -9999);
        answers("p65536*65536+5(1=1)", 20, 5);
        answers("p[65536*32768]/[0-1](1=1)", 20, -9999);
        answers("p[65536*32768]%[0-1]+3(1=1)", 20, 3);
        answers("p[65536*32768-1]/65536/10(1=1)", 20, 3276);
    }

    private static void refusals() {
        answers("g1/0(1=1);g5(1=1)", 0, 0);
        answers("p5+1%0(1=1)", 20, 0);
        answers("g5+[1/0](1=1)", 0, 0);
        answers("g5(1/0=0);g6(1=1)", 6, 0);
        answers("g5(!1/0=1);g6(1=1)", 6, 0);
        answers("g5(!(1/0=1));g6(1=1)", 6, 0);
        answers("g5((1/0=1)|1=1);g6(1=1)", 6, 0);
        answers("g5(1=1|1/0=1);g6(1=1)", 5, 0);
        answers("g5(1=2&1/0=1|2=2);g6(1=1)", 5, 0);
        answers("g5(1=1&1/0=1|2=2);g6(1=1)", 6, 0);
        answers("g5((1=1|1%0=1)&2=2);g6(1=1)", 5, 0);
        answers("g5(!(1=2&1/0=1));g6(1=1)", 5, 0);
        answers("g5(1=2);g6(0/0=0);p4(v/[v+7]=0);p3(1=1)", 20, 3);
    }

    private static void conditions() {
        answers("g1(1=1|1=2&1=3)", 1, 0);
        answers("g1((1=1|1=2)&1=3)", 20, 0);
        answers("g1(1=2&1=3|1=1)", 1, 0);
        answers("g1(1=1&2=2&3=4)", 20, 0);
        answers("g1(1=2|2=3|4=4)", 1, 0);
        answers("g1(!1=2&1=1)", 1, 0);
        answers("g1(!1=1|1=1)", 1, 0);
        answers("g1(!(1=1|1=1))", 20, 0);
        answers("g1(!!1=1)", 1, 0);
        answers("g1(!!!1=1)", 20, 0);
        answers("g1(1<1)", 20, 0);
        answers("g1(1>1)", 20, 0);
        answers("g1(0-1<0)", 1, 0);
        answers("g1(2>1+0)", 1, 0);
        answers("g1(!(!(1=2)&!(2=3))|(3=3&(4=4|1/0=1)))", 1, 0);
    }

    private static void facts() {
        answers("gl(1=1);pl(1=1)", 20, 20);
        answers("gc(1=1)", 1, 0);
        answers("go(1=1)", 5, 0);
        answers("pa(1=1)", 20, -3);
        answers("gr(1=1)", 1, 0);
        answers("gw(1=1)", 1, 0);
        answers("pv(1=1)", 20, -7);
        BellRibbons x = new BellRibbons();
        x.white(0, 2, 9, 3);
        Due.law(x, "gc*100+w*10+r+5(1=1);po+a+v(1=1)");
        due.is("a white one on a dry rod 0", x.ribbon(0, 7), 5);
        due.is("owner, arm and wind", x.ribbon(0, 8), 5);
    }

    private static void drawnTexts() {
        LawTexts texts = new LawTexts(new Random(7));
        BellRibbons x = new BellRibbons();
        for (int k = 0; k < 20000; k++) {
            if (k % 40 == 0) {
                // an object is for 512 calls, and a text needs up to eleven
                x = new BellRibbons();
            }
            String text = k % 3 == 0 ? texts.right() : k % 3 == 1 ? texts.spoilt() : texts.extreme();
            int fault = PlainLaw.fault(text);
            due.is("law of " + text, Due.law(x, text), fault != 0 ? fault : text.split(";").length);
        }
    }
}
