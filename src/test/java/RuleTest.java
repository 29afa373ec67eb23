/** Promises 8 and 42: the rule by which one sees, and how another one would do. */
public final class RuleTest {
    public static void main(String[] args) {
        badSigns();
        longTexts();
        values();
        letters();
        stays();
        law();
        lawRefused();
        Check.close("RuleTest");
    }

    private static void badSigns() {
        Check c = new Check();
        String[] good = {
            "", "b", "7", "999", "(b)", "((((b))))", "--b", "b--l", "b*-l", "(b<l)<k", "b<(l<k)", "b+l<k*2",
            "(b<l)+(k>1)", "b<-l", "l-b", "blkfrcnp".replaceAll("(.)(?=.)", "$1+")
        };
        for (String s : good) {
            c.rule(s, 0);
        }
        String[] bad = {
            "z", "+b", "*", ")", "B", " b", "b+", "b*", "b<", "-", "(", "(b", "b)", "()", "b b", "bb", "b5", "5b",
            "1234", "(5)5", "(5)b", "5(b)", "b<l<k", "b=l>k", "b<l+k>1", "(b<l=k)", "b<l)", "((((( b", "(((((b",
            "b++l", "b-*l", "b<>l", "b==l", "b<=l", "(b<)", "12+1000", "((((b)))))"
        };
        int[] at = {
            0, 0, 0, 0, 0, 0, 2, 2, 2, 1, 1, 2, 1, 1, 1, 1, 1, 1,
            3, 3, 3, 1, 3, 3, 5, 4, 3, 4, 4,
            2, 2, 2, 2, 2, 3, 6, 9
        };
        for (int i = 0; i < bad.length; i++) {
            c.rule(bad[i], -1 - at[i]);
        }
        c.rule("b" + (char) 200, -2);
        c.rule("" + (char) 0, -1);
    }

    private static void longTexts() {
        Check c = new Check();
        c.rule("b" + "+b".repeat(19), 0);
        c.rule("b" + "+b".repeat(19) + "+", -41);
        c.rule("b" + "+b".repeat(20), -41);
        c.rule("-".repeat(39) + "b", 0);
        c.rule("-".repeat(40), -41);
        c.rule("-".repeat(41) + "b", -41);
        c.rule("-".repeat(39) + "bx", -41);
        c.rule("-".repeat(39) + "xb", -40);
        c.rule("-".repeat(38) + "12", 0);
        c.rule("-".repeat(38) + "123", -41);
        c.rule("-".repeat(80), -41);
        c.rule("x" + "-".repeat(79), -1);
    }

    private static void reach(String rule, int want) {
        Check c = Check.made("34............", "1253", "");
        c.light("7", 1);
        c.rule(rule, 0);
        Check.due("REACH by " + rule, c.v.person(0, 4), want);
    }

    private static void values() {
        reach("", 4);
        reach("1+2*3", 7);
        reach("(1+2)*3", 9);
        reach("9-3-2", 4);
        reach("8/4/2", 1);
        reach("8/(4/2)", 4);
        reach("7/0", 0);
        reach("9+7/0", 9);
        reach("0-7/2+9", 6);
        reach("-7/2+9", 6);
        reach("7/-2+9", 6);
        reach("5--2", 7);
        reach("---4+9", 5);
        reach("2*-3+9", 3);
        reach("0-5", 0);
        reach("10", 9);
        reach("999", 9);
        reach("007", 7);
        reach("2<3", 1);
        reach("3<3", 0);
        reach("3>2", 1);
        reach("3>3", 0);
        reach("3=3", 1);
        reach("3=4", 0);
        reach("1+1=2", 1);
        reach("2=1+1", 1);
        reach("(1<2)*5+(2<1)*3", 5);
        reach("1<2*5+2", 1);
        // round at 32 bits: 999 to the 4th is below 0 there, to the 5th not
        int fourth = 999 * 999 * 999 * 999;
        reach("999*999*999*999", Math.max(0, Math.min(9, fourth)));
        reach("999*999*999*999<0", fourth < 0 ? 1 : 0);
        reach("999*999*999*999*999<0", fourth * 999 < 0 ? 1 : 0);
        // the least int by -1 stays the least
        reach("(128*128*128*128*8/-1<0)*3", 3);
        reach("128*128*128*128*8=-(128*128*128*128*8)", 1);
    }

    private static void letters() {
        reach("b", 3);
        reach("l", 7);
        reach("k", 0);
        reach("f", 5);
        reach("r", 1);
        reach("c", 2);
        reach("n", 0);
        reach("p", 1);
        Check c = Check.made("34............", "1253;1200;0000", "12;12;00");
        c.rule("p", 0);
        Check.due("two on one FIELD", c.v.person(0, 4), 2);
        Check.due("alone", c.v.person(2, 4), 1);
        c.v.hours(1);
        c.rule("k", 0);
        Check.due("knows two things", c.v.person(0, 4), 2);
        Check.due("knows one thing", c.v.person(2, 4), 1);
        c.rule("n", 0);
        c.v.hours(12);
        Check.due("hour 13 by 7", c.v.person(0, 4), 6);
        c.v.hours(1);
        Check.due("hour 14 by 7", c.v.person(0, 4), 0);
        c.light("38", 2);
        c.rule("l", 0);
        Check.due("light of hour 14", c.v.person(0, 4), 3);
        c.v.hours(1);
        Check.due("light of hour 15", c.v.person(0, 4), 8);
    }

    private static void stays() {
        Check c = Check.made("33.........", "0000", "");
        c.rule("2", 0);
        c.rule("3+", -3);
        Check.due("a refused one changes nothing", c.v.person(0, 4), 2);
        c.law("5", 0);
        Check.due("nor does a law", c.v.person(0, 4), 2);
        c.rule("", 0);
        Check.due("none again", c.v.person(0, 4), 9);
    }

    private static void law() {
        Check c = Check.made("77" + ".".repeat(49), "3300;0000", "");
        // all 49 by light 9; 9 round one in the middle and 4 in the corner by reach 1
        c.law("1", -36);
        c.row("law 1", 13, 49);
        c.law("", 0);
        c.row("law none", 49, 49);
        c.rule("0", 0);
        c.law("1", 11);
        c.row("law 1 against 0", 13, 2);
        c.law("", 47);
        c.row("no law against 0", 49, 2);
        c.law("r", 47);
        c.row("law r", 49, 2);
    }

    private static void lawRefused() {
        Check c = new Check();
        c.v.hidden();
        c.law("z", -10000);
        c.law("b+", -10002);
        c.law("b<l<k", -10003);
        c.law("-".repeat(41), -10040);
        c.row("stays", 9, 0);
        c.law("5", 0);
        c.row("nobody", 0, 0);
    }
}
