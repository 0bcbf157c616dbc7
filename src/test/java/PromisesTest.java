/** Each promise of the document, by its number: ordinary inputs, the edges that it names, and wrong inputs. */
public final class PromisesTest extends Checks {
    private PromisesTest() {
    }

    public static void main(String[] args) {
        promise1();
        promise2();
        promise3();
        promise4();
        tokens();
        grammar();
        depth();
        values();
        order();
        promise5();
        promise6();
        promise7();
        promise8();
        promise9();
        promise10();
        promise11();
        promise12();
        promise13();
        promise14And15();
        promise16();
        promise17();
        promise18();
        promise19And20();
        promise21();
        promise22();
        promise23();
        promise24();
        promise25();
        promise26();
        promise27();
        Due.end();
    }

    private static void asAtTheBeginning(RuleBroadcast x) {
        Due.is("count(0)", x.count(0), 1);
        for (int what = 1; what <= 6; what++) {
            Due.is("count(" + what + ")", x.count(what), 0);
        }
        for (int what = 10; what <= 40; what += 10) {
            Due.is("count(" + what + ")", x.count(what), 0);
            Due.is("count(" + (what + 1) + ")", x.count(what + 1), BAD);
        }
        Due.is("fault()", x.fault(), 0);
        Due.is("at(MAX)", x.at(MAX), 0);
        Due.is("out(0, 0)", x.out(0, 0), 0);
        Due.is("from(0, 0)", x.from(0, 0), NONE);
        Due.is("failed(0, 0)", x.failed(0, 0), 0);
        Due.is("failed(0, 1)", x.failed(0, 1), NONE);
        Due.is("failed(0, 2)", x.failed(0, 2), NONE);
        Due.is("rules(0, 0, 0)", x.rules(0, 0, 0), BAD);
        Due.is("restore(0)", x.restore(0), BAD);
        Due.is("alike(false)", x.alike(false), 0);
        Due.is("asOf(false)", x.asOf(false), 0);
        Due.is("keep(1)", x.keep(1), BAD);
        Due.is("keep(0)", x.keep(0), 0);
    }

    private static void promise1() {
        Due.in("1 a new object");
        asAtTheBeginning(new RuleBroadcast());
    }

    private static void promise2() {
        Due.in("2 feed");
        RuleBroadcast x = new RuleBroadcast();
        Due.is("feed, highest bytes first", x.feed(0x61206f75, 0x7420312c, 0x322c6b2c, 0x76202020, 0x20202020), 20);
        Due.is("rule(0)", x.rule(0), 1);
        x.apply(0, 1);
        Due.is("row", x.row(0, 7, 0, 9), 4);
        Due.is("out(0, 0)", x.out(0, 0), 9);
        Due.is("out(0, 3)", x.out(0, 3), 1);
        for (int i = 1; i <= 10; i++) {
            Due.is("feed " + i, x.feed(-1, -1, -1, -1, -1), 20 * i);
        }
        Due.is("feed 11", x.feed(0, 0, 0, 0, 0), FULL);
        Due.is("keep(181)", x.keep(181), 19);
        Due.is("feed behind 181", x.feed(0, 0, 0, 0, 0), FULL);
        Due.is("keep(180)", x.keep(180), 1);
        Due.is("feed behind 180", x.feed(0, 0, 0, 0, 0), 200);
        Due.is("bytes above 127 are no tokens", x.rule(0), -10);
        Due.is("fault()", x.fault(), 1);
    }

    private static void promise3() {
        Due.in("3 keep");
        RuleBroadcast x = new RuleBroadcast();
        Due.is("keep(0) of nothing", x.keep(0), 0);
        Due.is("keep(1) of nothing", x.keep(1), BAD);
        Due.feed(x, "a out 12345678901234");
        Due.is("keep(-1)", x.keep(-1), BAD);
        Due.is("keep(21)", x.keep(21), BAD);
        Due.is("keep(MIN)", x.keep(Integer.MIN_VALUE), BAD);
        Due.is("keep(20)", x.keep(20), 0);
        Due.is("keep(7)", x.keep(7), 13);
        Due.is("feed", Due.feed(x, "5"), 27);
        Due.is("keep(8)", x.keep(8), 19);
        Due.is("rule(0)", x.rule(0), 1);
        x.apply(0, 1);
        x.row(0, 0, 0, 0);
        Due.is("out(0, 0)", x.out(0, 0), 15);
    }

    private static void promise4() {
        Due.in("4 rule");
        RuleBroadcast x = new RuleBroadcast();
        tell(x, "a out 1", -5, 1);
        Due.feed(x, "a out 2");
        Due.is("rule(-6)", x.rule(-6), BAD);
        Due.is("rule(MIN)", x.rule(MIN), BAD);
        Due.is("the text stays with BAD", x.keep(20), 0);
        Due.is("rule(-5)", x.rule(-5), 2);
        Due.is("the text is empty then", x.keep(1), BAD);
        Due.feed(x, "a out");
        Due.is("rule(9)", x.rule(9), -30);
        Due.is("the text is empty behind a fault", x.keep(1), BAD);
        Due.is("at(9)", x.at(9), 2);
        tell(x, "b out 3", -5, 3);
        Due.is("names are numbered as they were told", x.rules(3, 1, 1), 3);
        Due.is("a rule told anew is in place of the one before", x.rules(3, 0, 1), 2);
        for (int i = 4; i <= 60; i++) {
            tell(x, "b out 3", 7, i);
        }
        Due.feed(x, "! ");
        Due.is("rule(7)", x.rule(7), FULL);
        Due.is("rule(6)", x.rule(6), BAD);
        Due.is("the text stays with FULL", x.keep(20), 0);
        Due.is("count(1)", x.count(1), 60);
        Due.is("fault() of the latest that was read", x.fault(), 0);
    }

    private static void tokens() {
        Due.in("4 tokens");
        sound("a out 1");
        sound("\n a\nout\n1 \n");
        sound("abcdefgh out 999999999");
        sound("aout out 1");
        sound("zz out 1");
        sound("a out  1" + "+1".repeat(96));
        faulty("a out  1" + "+1".repeat(95) + "+ ", 200, 2);
        faulty("a out  1" + "+1".repeat(95) + "+!", 199, 1);
        sound("kk out k");
        sound("a if 1=1out 1");
        sound("a out12");
        faulty("", 0, 2);
        faulty("   ", 3, 2);
        faulty("abcdefghi out 1", 0, 1);
        faulty("a out 1234567890", 6, 1);
        faulty("a out 0000000001", 6, 1);
        faulty("a  abcdefghi", 3, 1);
        faulty("A out 1", 0, 1);
        faulty("a\tout 1", 1, 1);
        faulty("a\rout 1", 1, 1);
        faulty("a out 1\0", 7, 1);
        faulty("a out 1\u00e9", 7, 1);
        faulty("a out 1;", 7, 1);
        faulty("a out 1 { ", 8, 1);
        faulty("a out ` ", 6, 1);
        faulty("a out 1 abcdefghi", 8, 1);
        faulty("a out out !", 6, 2);
        faulty("a out 1if", 7, 2);
        faulty("a out 1a", 7, 2);
        faulty("a if 1 < = 2 out 1", 9, 2);
        faulty("a if 1 =< 2 out 1", 8, 2);
        faulty("a if 1 <> 2 out 1", 8, 2);
        faulty("a if 1 == 2 out 1", 8, 2);
        faulty("a if 1 >=- 2", 12, 2);
        for (String word : new String[] {"by", "if", "out", "or", "and", "not", "pick", "k", "t", "v", "n"}) {
            faulty(word + " out 1", 0, 2);
        }
        for (String word : new String[] {"byy", "i", "ou", "r", "nd", "nott", "pic", "kt", "pickk", "vn"}) {
            sound(word + " out 1");
        }
    }

    private static void grammar() {
        Due.in("4 grammar");
        sound("a by k if k=1 out 1,2,3,4");
        sound("a by k out 1");
        sound("a if k=1 and t=1 or v=1 or not n=1 out 1");
        sound("a if [[k=1] or not [t#2]] and (k)>(t) out 1");
        sound("a out pick(k:1)*pick(pick(1:2,3):k,t,v,n,1,2)");
        sound("a out (-k)*-(-t)/--2%(1+2-3)");
        faulty("1 out 1", 0, 2);
        faulty("a", 1, 2);
        faulty("a b out 1", 2, 2);
        faulty("a 1", 2, 2);
        faulty("a by out 1", 5, 2);
        faulty("a by k", 6, 2);
        faulty("a by k by k out 1", 7, 2);
        faulty("a by k=1 out 1", 6, 2);
        faulty("a by [k] out 1", 5, 2);
        faulty("a by b out 1", 5, 2);
        faulty("a if k=1 by k out 1", 9, 2);
        faulty("a if k=1 if k=1 out 1", 9, 2);
        faulty("a if out 1", 5, 2);
        faulty("a if k out 1", 7, 2);
        faulty("a if k=1", 8, 2);
        faulty("a if k=1=1 out 1", 8, 2);
        faulty("a if [k] out 1", 7, 2);
        faulty("a if [k=1 out 1", 10, 2);
        faulty("a if k=1] out 1", 8, 2);
        faulty("a if (k=1) out 1", 7, 2);
        faulty("a if [k=1]=1 out 1", 10, 2);
        faulty("a if [k=1] [k=1] out 1", 11, 2);
        faulty("a if k=not 1 out 1", 7, 2);
        faulty("a if not out 1", 9, 2);
        faulty("a if k=1 or out 1", 12, 2);
        faulty("a if k=1 and or k=1 out 1", 13, 2);
        faulty("a out", 5, 2);
        faulty("a out 1,", 8, 2);
        faulty("a out 1,,2", 8, 2);
        faulty("a out 1 2", 8, 2);
        faulty("a out 1,2,3,4,5", 13, 2);
        faulty("a out 1 out 1", 8, 2);
        faulty("a out +1", 6, 2);
        faulty("a out 1+*2", 8, 2);
        faulty("a out ()", 7, 2);
        faulty("a out (1", 8, 2);
        faulty("a out 1)", 7, 2);
        faulty("a out (1,2)", 8, 2);
        faulty("a out [1]", 6, 2);
        faulty("a out (1]", 8, 2);
        faulty("a out pick", 10, 2);
        faulty("a out pick 1", 11, 2);
        faulty("a out pick(1)", 12, 2);
        faulty("a out pick(1,2)", 12, 2);
        faulty("a out pick(:1)", 11, 2);
        faulty("a out pick(1:)", 13, 2);
        faulty("a out pick(1:2:3)", 14, 2);
        faulty("a out pick(1:2,3", 16, 2);
        faulty("a out pick(1:1,2,3,4,5,6,7)", 24, 2);
        sound("a out pick(1:1,2,3,4,5,6)");
        faulty("a out - ", 8, 2);
        faulty("a out b", 6, 2);
        RuleBroadcast x = with("a out 1", "b out 1", "c out 1", "d out 1", "e out 1", "f out 1", "g out 1", "h out 1");
        tell(x, " i out 1", 10, -11);
        Due.is("fault() of a ninth name", x.fault(), 4);
        tell(x, " i 1 !", 10, -11);
        Due.is("fault() of a ninth name ahead of others", x.fault(), 4);
        tell(x, "abcdefghi", 10, -10);
        Due.is("fault() of no token, which would be the ninth name", x.fault(), 1);
        tell(x, "k", 10, -10);
        Due.is("fault() of a key word", x.fault(), 2);
        tell(x, "h i", 10, -12);
        Due.is("fault() of a name at a wrong place", x.fault(), 2);
        tell(x, "h out 1", 10, 9);
        tell(x, "a out 1", 10, 10);
        Due.is("count(2)", x.count(2), 8);
        RuleBroadcast y = new RuleBroadcast();
        tell(y, "a out", 0, -15);
        tell(y, "b out 1", 0, 1);
        Due.is("a faulty text takes no number", y.rules(1, 0, 1), 1);
    }

    private static void depth() {
        Due.in("4 depth");
        sound("a out " + "-".repeat(12) + "k");
        faulty("a out " + "-".repeat(13) + "k", 18, 3);
        faulty("a out " + "-".repeat(13) + "!", 18, 3);
        faulty("a out " + "-".repeat(12) + "!", 18, 1);
        sound("a out " + "(".repeat(12) + "k" + ")".repeat(12));
        faulty("a out " + "(".repeat(13), 18, 3);
        sound("a out " + "pick(k:".repeat(12) + "k" + ")".repeat(12));
        faulty("a out " + "pick(k:".repeat(13), 6 + 12 * 7, 3);
        sound("a out " + "pick(".repeat(12) + "k" + ":1)".repeat(12));
        sound("a if " + "[".repeat(12) + "k=1" + "]".repeat(12) + " out 1");
        faulty("a if " + "[".repeat(13), 17, 3);
        sound("a if " + "not ".repeat(12) + "k=1 out 1");
        faulty("a if " + "not ".repeat(13), 53, 3);
        faulty("a if " + "not ".repeat(12) + "-", 53, 3);
        faulty("a if " + "not ".repeat(12) + "k=(", 55, 3);
        sound("a if " + "not ".repeat(12) + "k=1 and not " + "(".repeat(11) + "k" + ")".repeat(11) + "=1 or " +
                "not ".repeat(12) + "k=1 out 1");
        sound("a if not not not [not not not [not not not not k=1]] or not k=1 out 1");
        faulty("a if not not not [not not not [not not not not not k=1", 47, 3);
        sound("a out " + "-".repeat(12) + "k*" + "-".repeat(12) + "k+" + "-".repeat(11) + "(k)");
        faulty("a out " + "-".repeat(12) + "(k)", 18, 3);
        faulty("a out -(-(-(-(-(-(-k", 18, 3);
        faulty("a out -(-(-(-(-(-(1)+-2)+-2)+-2)+-(3)+-((", 41, 2);
        faulty("a out ((((((((((((k)+(k)+-(", 26, 3);
        faulty("a if [[[[[[not not not not -pick(pick(", 33, 3);
        faulty("a out ((((((((((((]", 18, 2);
        faulty("a if k=k or not " + "[".repeat(12), 27, 3);
        faulty("a by " + "-".repeat(11) + "((k", 17, 3);
        sound("a if " + "[k=1]and".repeat(13) + " k=1 out 1");
        sound("a if " + "not k=1 or ".repeat(13) + " k=1 out 1");
        sound("a out " + "pick(1:1)+".repeat(13) + "1");
        sound("a out " + "(1)+".repeat(13) + "1");
        sound("a out " + "-1+".repeat(13) + "1");
        RuleBroadcast x = new RuleBroadcast();
        tell(x, "a out " + "(".repeat(13), 0, -28);
        tell(x, "a out " + "(".repeat(13), 0, -28);
        tell(x, "a out " + "(".repeat(12) + "k" + ")".repeat(12), 0, 1);
    }

    private static void values() {
        Due.in("values");
        sum("k", 7);
        sum("t", 3);
        sum("v", -5);
        sum("n", 2);
        sum("999999999*999999999", 999999998000000001L);
        sum("007", 7);
        sum("1-2-3", -4);
        sum("100/5/2", 10);
        sum("100/5*2", 40);
        sum("100%7*2", 4);
        sum("2*100%7", 4);
        sum("1+2*3", 7);
        sum("(1+2)*3", 9);
        sum("1-2+3", 2);
        sum("-k*-v", -35);
        sum("--k", 7);
        sum("-(k+1)-1", -9);
        sum("-7/2", -3);
        sum("7/-2", -3);
        sum("-7%3", -1);
        sum("7%-3", 1);
        sum("pick(0:4,5,6)", 4);
        sum("pick(2:4,5,6)", 6);
        sum("pick(k-6:4,5,6)+1", 6);
        sum("10-pick(pick(1:0,1):4,pick(0:3))", 7);
        RuleBroadcast x = with("a out k+v,k-v,k*v,-k", "b out k/v,k%v");
        x.apply(0, 60);
        Due.is("row", x.row(0, MIN, 0, -1), 6);
        Due.is("MIN%-1", x.out(0, 0), 0);
        Due.is("MIN/-1", x.out(0, 1), MIN);
        Due.is("-MIN", x.out(0, 2), MIN);
        Due.is("MIN*-1", x.out(0, 3), MIN);
        Due.is("MIN--1", x.out(0, 4), MIN + 1);
        Due.is("MIN+-1", x.out(0, 5), MAX);
        long[][] pairs = {{1, 2}, {2, 2}, {3, 2}, {-1, 1}, {MIN, MAX}, {MAX, MIN}};
        for (long[] pair : pairs) {
            long k = pair[0];
            long v = pair[1];
            String[] signs = {"<", "<=", ">", ">=", "=", "#"};
            boolean[] due = {k < v, k <= v, k > v, k >= v, k == v, k != v};
            for (int i = 0; i < signs.length; i++) {
                Due.is(k + signs[i] + v, with("a if k" + signs[i] + "v out 1").tries(0, k, 0, v), due[i] ? 1 : 0);
            }
        }
    }

    private static void order() {
        Due.in("values, their order");
        tried("a out 1/0", -11);
        tried("a out 1%0", -11);
        tried("a out pick(1:1)", -12);
        tried("a out pick(-1:1)", -12);
        tried("a out pick(6:1,2,3,4,5,6)", -12);
        tried("a out pick(5:1,2,3,4,5,6)", 1);
        tried("a out 1/0+pick(9:1)", -11);
        tried("a out pick(9:1)+1/0", -12);
        tried("a out pick(9:1/0)", -11);
        tried("a out pick(0:1,1/0)", -11);
        tried("a out pick(pick(3:1):1/0)", -12);
        tried("a out pick(9:1)/0", -12);
        tried("a out 0/pick(9:1)", -12);
        tried("a out 1,2,3,1/0", -11);
        tried("a out pick(9:1),1/0", -12);
        tried("a if 1/0=1 out pick(9:1)", -11);
        tried("a if 1=2 out 1/0", 0);
        tried("a if 1=1 or 1/0=1 out 1,2", 2);
        tried("a if 1=2 or 1/0=1 out 1", -11);
        tried("a if 1=2 and 1/0=1 out 1", 0);
        tried("a if 1=1 and 1/0=1 out 1", -11);
        tried("a if 1=1 or 1/0=1 and 1/0=1 out 1", 1);
        tried("a if 1=2 and 1/0=1 or 1=1 out 1", 1);
        tried("a if 1=2 and 1=1 or 1=2 out 1", 0);
        tried("a if 1=1 or 1=2 and 1=2 out 1", 1);
        tried("a if [1=1 or 1=2] and 1=2 out 1", 0);
        tried("a if 1=2 or 1=2 or 1=1 or 1/0=1 out 1", 1);
        tried("a if 1=1 and 1=1 and 1=2 and 1/0=1 out 1", 0);
        tried("a if not 1=2 and 1=1 out 1", 1);
        tried("a if not 1=1 or 1=1 out 1", 1);
        tried("a if not [1=1 or 1=1] out 1", 0);
        tried("a if not not 1=1 out 1", 1);
        tried("a if 1=2 or not 1=2 out 1", 1);
        tried("a if 1=1 and not 1=1 out 1", 0);
        tried("a by 1/0 out 1", 1);
    }

    private static void promise5() {
        Due.in("5 fault");
        RuleBroadcast x = new RuleBroadcast();
        Due.is("fault()", x.fault(), 0);
        tell(x, "a out !", 5, -16);
        Due.is("fault()", x.fault(), 1);
        tell(x, "a out", 5, -15);
        Due.is("fault()", x.fault(), 2);
        Due.is("fault() again", x.fault(), 2);
        tell(x, "a out 1", 5, 1);
        Due.is("fault()", x.fault(), 0);
        tell(x, "a out -------------1", 5, -28);
        Due.is("fault()", x.fault(), 3);
        tell(x, "a out 1", 4, BAD);
        Due.is("fault() behind a rule() that read nothing", x.fault(), 3);
    }

    private static void promise6() {
        Due.in("6 drop");
        RuleBroadcast x = new RuleBroadcast();
        Due.is("drop(0, 0)", x.drop(0, 0), BAD);
        tell(x, "a out 1", 5, 1);
        tell(x, "b out 1,2", 5, 2);
        Due.is("drop(-1, 5)", x.drop(-1, 5), BAD);
        Due.is("drop(2, 5)", x.drop(2, 5), BAD);
        Due.is("drop(8, 5)", x.drop(8, 5), BAD);
        Due.is("drop(MAX, 5)", x.drop(Integer.MAX_VALUE, 5), BAD);
        Due.is("drop(0, 4)", x.drop(0, 4), BAD);
        Due.is("count(1)", x.count(1), 2);
        Due.is("drop(0, 5)", x.drop(0, 5), 3);
        Due.is("drop(0, 5) again", x.drop(0, 5), BAD);
        Due.is("change(3, 0)", x.change(3, 0), 2);
        x.apply(0, 2);
        Due.is("row() before it is applied", x.row(0, 0, 0, 0), 3);
        x.apply(0, 1);
        Due.is("row() behind it", x.row(0, 0, 0, 0), 2);
        tell(x, "a out 1", 6, 4);
        Due.is("rules(4, 0, 1): it has its number again", x.rules(4, 0, 1), 4);
        for (int i = 5; i <= 60; i++) {
            tell(x, "b out 1", 7, i);
        }
        Due.is("drop(1, 7)", x.drop(1, 7), FULL);
        Due.is("drop(1, 6)", x.drop(1, 6), BAD);
        Due.is("drop(2, 7)", x.drop(2, 7), BAD);
        Due.is("rules(60, 1, 0)", x.rules(60, 1, 0), 1);
    }

    private static void promise7() {
        Due.in("7 alike");
        RuleBroadcast x = with("a out 1/v", "b out 2");
        x.apply(0, 60);
        Due.is("alike(true)", x.alike(true), 0);
        Due.is("alike(true) again", x.alike(true), 1);
        Due.is("row() that fails", x.row(0, 0, 15, 0), 1);
        Due.is("a change more", x.count(1), 3);
        Due.is("change(3, 0)", x.change(3, 0), 3);
        Due.is("change(3, 1)", x.change(3, 1), 0);
        Due.is("change(3, 2)", x.change(3, 2), NONE);
        Due.is("when(3), the row's time", x.when(3), 15);
        Due.is("rules(3, 0, 0)", x.rules(3, 0, 0), 1);
        Due.is("rules(3, 0, 1)", x.rules(3, 0, 1), 1);
        Due.is("rules(3, 0, 2)", x.rules(3, 0, 2), 0);
        tell(x, "a out 2/v", 15, 4);
        Due.is("rules(4, 0, 2), told anew", x.rules(4, 0, 2), 1);
        x.apply(0, 60);
        x.row(0, 0, -99, 0);
        Due.is("when(5), the time of the change before", x.when(5), 15);
        tell(x, "a out 3/v", 15, 6);
        x.apply(0, 60);
        Due.is("alike(false)", x.alike(false), 1);
        Due.is("alike(false) again", x.alike(false), 0);
        x.row(0, 0, 15, 0);
        Due.is("no change without alike", x.count(1), 6);
        alikeOfOthers();
        alikeWithoutRoom();
    }

    private static void alikeOfOthers() {
        RuleBroadcast x = with("a out 1/v");
        x.tasks(3);
        x.apply(0, 60);
        x.apply(1, 60);
        x.apply(2, 60);
        x.alike(true);
        x.row(0, 0, 10, 0);
        Due.is("count(1)", x.count(1), 2);
        x.row(1, 0, 10, 0);
        Due.is("no second change for what is off", x.count(1), 2);
        Due.is("it is off there too", x.off(1, 0), 1);
        tell(x, "a out v", 10, 3);
        x.row(2, 0, 10, 0);
        Due.is("no change for an older text", x.count(1), 3);
        Due.is("failed(2, 2)", x.failed(2, 2), 1);
        RuleBroadcast y = with("a out 1/v");
        y.alike(true);
        y.apply(0, 1);
        y.drop(0, 10);
        y.row(0, 0, 10, 0);
        Due.is("no change for what was dropped", y.count(1), 2);
    }

    private static void alikeWithoutRoom() {
        RuleBroadcast x = with("a out 1/v");
        for (int i = 2; i <= 60; i++) {
            tell(x, "b out 1", 10, i);
        }
        x.alike(true);
        x.apply(0, 60);
        Due.is("row", x.row(0, 0, 10, 0), 1);
        Due.is("the log has no room", x.count(1), 60);
        Due.is("it is off at the task", x.off(0, 0), 1);
        Due.is("count(5)", x.count(5), 1);
    }

    private static void promise8() {
        Due.in("8 asOf");
        RuleBroadcast x = new RuleBroadcast();
        tell(x, "a out 1", 10, 1);
        tell(x, "b out 1,2", 20, 2);
        Due.is("row() by what is applied", x.row(0, 0, 20, 0), 0);
        Due.is("asOf(true)", x.asOf(true), 0);
        Due.is("asOf(true) again", x.asOf(true), 1);
        Due.is("row() of 9", x.row(0, 0, 9, 0), 0);
        Due.is("row() of 10", x.row(0, 0, 10, 0), WAITS);
        Due.is("row() of 20", x.row(0, 0, 20, 0), WAITS);
        Due.is("asOf(false)", x.asOf(false), 1);
        Due.is("row() as of no time goes ahead", x.row(0, 0, 20, 0), 0);
        Due.is("those that wait do so", x.count(30), 2);
        x.apply(0, 1);
        Due.is("count(30)", x.count(30), 1);
        x.apply(0, 1);
        Due.is("count(30)", x.count(30), 0);
        Due.is("count(40)", x.count(40), 4);
        x.asOf(true);
        Due.is("row() of 19 is judged by version 1", x.row(0, 0, 19, 0), 1);
        Due.is("row() of MIN", x.row(0, 0, MIN, 0), 0);
        Due.is("row() of MAX", x.row(0, 0, MAX, 0), 3);
        RuleBroadcast y = new RuleBroadcast();
        y.asOf(true);
        tell(y, "a out 1", 10, 1);
        y.row(0, 0, 10, 0);
        tell(y, "a out 1,2,3", 10, 2);
        y.apply(0, 2);
        Due.is("a row has the version that was there as it came", y.count(40), 1);
    }

    private static void promise9() {
        Due.in("9 tasks");
        RuleBroadcast x = with("a out 1/v", "b out n", "c out 1");
        Due.is("tasks(0)", x.tasks(0), BAD);
        Due.is("tasks(-1)", x.tasks(-1), BAD);
        Due.is("tasks(7)", x.tasks(7), BAD);
        Due.is("count(0)", x.count(0), 1);
        x.apply(0, 2);
        x.row(0, 0, 0, 0);
        Due.is("tasks(6)", x.tasks(6), 1);
        Due.is("new ones have applied as task 0", x.count(15), 2);
        Due.is("and its offs", x.off(5, 0), 1);
        Due.is("but not what it judged", x.count(25), 0);
        Due.is("nor what came out", x.count(45), 0);
        Due.is("nor its failure", x.failed(5, 0), 0);
        x.row(5, 0, 0, 1);
        x.apply(5, 1);
        Due.is("tasks(6) again", x.tasks(6), 6);
        Due.is("count(15) stays", x.count(15), 3);
        Due.is("tasks(5)", x.tasks(5), 6);
        Due.is("count(15)", x.count(15), BAD);
        Due.is("tasks(6)", x.tasks(6), 5);
        Due.is("task 5 is a new one", x.count(25), 0);
        Due.is("count(45)", x.count(45), 0);
        Due.is("count(15)", x.count(15), 2);
        Due.is("count(4) has those of tasks that went", x.count(4), 2);
        tasksThatGo();
        rowsThatAreJudgedAsTasksGo();
    }

    private static void tasksThatGo() {
        RuleBroadcast x = new RuleBroadcast();
        x.tasks(6);
        x.asOf(true);
        tell(x, "a out k", 10, 1);
        for (int task = 1; task < 6; task++) {
            for (int i = 0; i < 3; i++) {
                x.row(task, 10 * task + i, 10, 0);
            }
        }
        Due.is("tasks(2)", x.tasks(2), 6);
        Due.is("count(30), of 2 and 4", x.count(30), 6);
        Due.is("count(31), of 1, 3 and of 5 none", x.count(31), 6);
        Due.is("count(3)", x.count(3), 3);
        x.apply(0, 1);
        x.apply(1, 1);
        int[] due = {42, 41, 40, 22, 21, 20};
        int[] dueOfOne = {32, 31, 30, 12, 11, 10};
        for (int i = 0; i < 6; i++) {
            Due.is("out(0, " + i + ")", x.out(0, i), due[i]);
            Due.is("out(1, " + i + ")", x.out(1, i), dueOfOne[i]);
        }
    }

    private static void rowsThatAreJudgedAsTasksGo() {
        RuleBroadcast x = new RuleBroadcast();
        x.tasks(3);
        x.asOf(true);
        tell(x, "a out n,k", 10, 1);
        tell(x, "a out 9", 20, 2);
        x.apply(0, 2);
        for (int i = 0; i < 6; i++) {
            x.row(2, i, 10, 0);
        }
        x.row(1, 50, 10, 0);
        Due.is("tasks(1)", x.tasks(1), 3);
        Due.is("count(20)", x.count(20), 7);
        Due.is("count(3)", x.count(3), 0);
        Due.is("by their version, the last of task 2", x.out(0, 0), 5);
        Due.is("its n", x.out(0, 1), 6);
        Due.is("task 1 came first", x.out(0, 12), 50);
        x.tasks(3);
        Due.is("nothing waits at a new one", x.count(32), 0);
    }

    private static void promise10() {
        Due.in("10 row");
        RuleBroadcast x = with("b out 1", "a if v>0 out k,t,v", "c out 7/v,8");
        x.tasks(2);
        Due.is("row(-1)", x.row(-1, 0, 0, 0), BAD);
        Due.is("row(2)", x.row(2, 0, 0, 0), BAD);
        Due.is("row(MAX)", x.row(Integer.MAX_VALUE, 0, 0, 0), BAD);
        Due.is("row() without rules", x.row(0, 0, 0, 0), 0);
        x.apply(0, 60);
        Due.is("row", x.row(0, 4, 5, 6), 6);
        long[] due = {8, 1, 6, 5, 4, 1};
        int[] dueRules = {2, 2, 1, 1, 1, 0};
        for (int i = 0; i < due.length; i++) {
            Due.is("out(0, " + i + ")", x.out(0, i), due[i]);
            Due.is("from(0, " + i + ")", x.from(0, i), dueRules[i]);
        }
        Due.is("row() with a failure", x.row(0, 4, 5, 0), 1);
        Due.is("row() without what is off", x.row(0, 4, 5, 1), 4);
        Due.is("nothing at the other task", x.count(41), 0);
        x.asOf(true);
        for (int i = 0; i < 6; i++) {
            Due.is("row() that waits", x.row(1, i, 10, 0), WAITS);
        }
        Due.is("the seventh", x.row(1, 6, 10, 0), FULL);
        Due.is("count(31)", x.count(31), 6);
        Due.is("count(3)", x.count(3), 0);
        Due.is("one that need not wait", x.row(1, 6, 9, 0), 0);
        failuresOfOneRow();
    }

    private static void failuresOfOneRow() {
        RuleBroadcast x = with("a out 1/v", "b out pick(k:1)", "c out 1");
        x.apply(0, 60);
        Due.is("row() with two failures", x.row(0, 9, 0, 0), 1);
        Due.is("count(5)", x.count(5), 2);
        Due.is("failed(0, 0)", x.failed(0, 0), 2);
        Due.is("failed(0, 1)", x.failed(0, 1), 1);
        Due.is("off(0, 0)", x.off(0, 0), 1);
        Due.is("off(0, 1)", x.off(0, 1), 1);
        Due.is("row() behind it", x.row(0, 0, 0, 1), 1);
    }

    private static void promise11() {
        Due.in("11 goes");
        RuleBroadcast x = with("a out 1", "b by v*2+n out 1/0", "c by pick(v:1/t) out 1");
        x.tasks(6);
        Due.is("goes(0, 8)", x.goes(0, 8, 0, 0), 2);
        Due.is("goes(0, -1)", x.goes(0, -1, 0, 0), 5);
        Due.is("goes(0, -6)", x.goes(0, -6, 0, 0), 0);
        Due.is("goes(0, MIN)", x.goes(0, MIN, 0, 0), 4);
        Due.is("goes(0, MAX)", x.goes(0, MAX, 0, 0), 1);
        Due.is("goes(1, v = 5)", x.goes(1, 0, 0, 5), 4);
        Due.is("goes(2, v = 0, t = 0)", x.goes(2, 0, 0, 0), -11);
        Due.is("goes(2, v = 1, t = 1)", x.goes(2, 0, 1, 1), -12);
        Due.is("goes(2, v = 0, t = 1)", x.goes(2, 0, 1, 0), 1);
        Due.is("count(5)", x.count(5), 0);
        Due.is("goes(3)", x.goes(3, 0, 0, 0), BAD);
        Due.is("goes(-1)", x.goes(-1, 0, 0, 0), BAD);
        Due.is("goes(8)", x.goes(8, 0, 0, 0), BAD);
        x.apply(0, 60);
        x.row(0, 0, 0, 0);
        Due.is("n is 0", x.goes(1, 0, 0, 5), 4);
        x.drop(0, 10);
        Due.is("goes() of one that was dropped", x.goes(0, 0, 0, 0), BAD);
        x.alike(true);
        x.tasks(6);
        Due.is("goes() of the latest, not of what is applied", x.goes(1, 0, 0, 2), 4);
        tell(x, "b by 3 out 1", 10, 5);
        Due.is("goes() of a text told anew", x.goes(1, 0, 0, 2), 3);
        x.tasks(2);
        Due.is("goes() with fewer tasks", x.goes(1, 0, 0, 2), 1);
    }

    private static void promise12() {
        Due.in("12 send");
        RuleBroadcast x = with("a by v out k", "b by 1/v out 1/v");
        x.tasks(3);
        x.apply(2, 60);
        Due.is("send(0, v = 5)", x.send(0, 77, 0, 5), 2);
        Due.is("count(22)", x.count(22), 1);
        Due.is("out(2, 1)", x.out(2, 1), 77);
        Due.is("send(1, v = 0)", x.send(1, 0, 0, 0), -11);
        Due.is("send(2)", x.send(2, 0, 0, 0), BAD);
        Due.is("send(-1)", x.send(-1, 0, 0, 0), BAD);
        Due.is("count(4)", x.count(4), 1);
        Due.is("count(5)", x.count(5), 0);
        x.asOf(true);
        for (int i = 0; i < 6; i++) {
            Due.is("send() of a row that waits", x.send(0, i, 10, 1), 1);
        }
        Due.is("count(31)", x.count(31), 6);
        Due.is("send() of the seventh", x.send(0, 6, 10, 1), FULL);
        Due.is("count(31)", x.count(31), 6);
        Due.is("send() of one that need not wait", x.send(0, 6, 9, 1), 1);
        Due.is("count(21)", x.count(21), 1);
        x.drop(0, 10);
        Due.is("send() of a rule that was dropped", x.send(0, 0, 0, 0), BAD);
    }

    private static void promise13() {
        Due.in("13 apply");
        RuleBroadcast x = with("a out 1", "b out 1", "c out 1");
        Due.is("apply(1, 1)", x.apply(1, 1), BAD);
        Due.is("apply(-1, 1)", x.apply(-1, 1), BAD);
        Due.is("apply(0, -1)", x.apply(0, -1), BAD);
        Due.is("apply(0, 61)", x.apply(0, 61), BAD);
        Due.is("apply(0, 0)", x.apply(0, 0), 0);
        Due.is("count(10)", x.count(10), 0);
        Due.is("apply(0, 2)", x.apply(0, 2), 2);
        Due.is("count(10)", x.count(10), 2);
        Due.is("apply(0, 60)", x.apply(0, 60), 1);
        Due.is("apply(0, 60)", x.apply(0, 60), 0);
        applyWithRows();
        applyWhatComesByIt();
    }

    private static void applyWithRows() {
        RuleBroadcast x = new RuleBroadcast();
        x.asOf(true);
        tell(x, "a out k,n", 10, 1);
        tell(x, "b out v", 20, 2);
        tell(x, "c out 1", 30, 3);
        x.row(0, 1, 30, 0);
        x.row(0, 2, 10, 0);
        x.row(0, 3, 20, 5);
        x.row(0, 4, 10, 0);
        Due.is("apply(0, 1)", x.apply(0, 1), 1);
        Due.is("count(30)", x.count(30), 2);
        Due.is("out(0, 0), n of the second", x.out(0, 0), 1);
        Due.is("out(0, 1), k of the second", x.out(0, 1), 4);
        Due.is("out(0, 3), k of the first", x.out(0, 3), 2);
        Due.is("apply(0, 2)", x.apply(0, 2), 2);
        Due.is("count(30)", x.count(30), 0);
        long[] due = {1, 0, 3, 1, 5, 2, 3};
        for (int i = 0; i < due.length; i++) {
            Due.is("out(0, " + i + ")", x.out(0, i), due[i]);
        }
    }

    private static void applyWhatComesByIt() {
        RuleBroadcast x = new RuleBroadcast();
        x.asOf(true);
        x.alike(true);
        tell(x, "a out 1/v", 10, 1);
        tell(x, "b out pick(v:1)", 10, 2);
        x.row(0, 0, 12, 0);
        x.row(0, 0, 13, 1);
        Due.is("apply(0, 3)", x.apply(0, 3), 3);
        Due.is("count(1)", x.count(1), 4);
        Due.is("when(3)", x.when(3), 12);
        Due.is("when(4)", x.when(4), 13);
        Due.is("apply(0, 60)", x.apply(0, 60), 1);
        Due.is("rules(4, 0, 2)", x.rules(4, 0, 2), 0);
        Due.is("rules(4, 1, 2)", x.rules(4, 1, 2), 0);
        Due.is("rules(3, 1, 2)", x.rules(3, 1, 2), 1);
    }

    private static void promise14And15() {
        Due.in("14 out, 15 from");
        RuleBroadcast x = with("a out v,-v", "b out 5");
        Due.is("out(0, 0)", x.out(0, 0), 0);
        Due.is("from(0, 0)", x.from(0, 0), NONE);
        x.apply(0, 60);
        x.row(0, 0, 0, MIN);
        x.row(0, 0, 0, 3);
        long[] due = {5, -3, 3, 5, MIN, MIN};
        int[] dueRules = {1, 0, 0, 1, 0, 0};
        for (int i = 0; i < due.length; i++) {
            Due.is("out(0, " + i + ")", x.out(0, i), due[i]);
            Due.is("from(0, " + i + ")", x.from(0, i), dueRules[i]);
        }
        for (int i : new int[] {6, 40, -1, Integer.MIN_VALUE, Integer.MAX_VALUE}) {
            Due.is("out(0, " + i + ")", x.out(0, i), 0);
            Due.is("from(0, " + i + ")", x.from(0, i), NONE);
        }
        for (int task : new int[] {-1, 1, 6, Integer.MIN_VALUE, Integer.MAX_VALUE}) {
            Due.is("out(" + task + ", 0)", x.out(task, 0), 0);
            Due.is("from(" + task + ", 0)", x.from(task, 0), BAD);
            Due.is("from(" + task + ", -1)", x.from(task, -1), BAD);
        }
        for (int i = 1; i <= 14; i++) {
            x.row(0, 0, 0, 100 + i);
        }
        Due.is("count(40)", x.count(40), 40);
        Due.is("out(0, 39), the last of the row 101", x.out(0, 39), 5);
        Due.is("from(0, 39)", x.from(0, 39), 1);
        Due.is("out(0, 38), the first of the row 102", x.out(0, 38), 102);
        Due.is("from(0, 38)", x.from(0, 38), 0);
        Due.is("out(0, 40)", x.out(0, 40), 0);
        Due.is("from(0, 40)", x.from(0, 40), NONE);
    }

    private static void promise16() {
        Due.in("16 at");
        RuleBroadcast x = new RuleBroadcast();
        Due.is("at(0)", x.at(0), 0);
        tell(x, "a out 1", MIN, 1);
        tell(x, "a out 1", -3, 2);
        tell(x, "a out 1", -3, 3);
        tell(x, "a out 1", MAX, 4);
        Due.is("at(MIN)", x.at(MIN), 1);
        Due.is("at(-4)", x.at(-4), 1);
        Due.is("at(-3)", x.at(-3), 3);
        Due.is("at(MAX - 1)", x.at(MAX - 1), 3);
        Due.is("at(MAX)", x.at(MAX), 4);
    }

    private static void promise17() {
        Due.in("17 rules");
        RuleBroadcast x = with("a out 1", "b out 1", "a out 2");
        x.drop(1, 10);
        int[][][] due = {
            {{0, NONE, 0}, {0, NONE, 0}}, {{1, 1, 1}, {0, NONE, 0}}, {{1, 1, 1}, {1, 2, 1}},
            {{1, 3, 1}, {1, 2, 1}}, {{1, 3, 1}, {0, NONE, 0}}};
        for (int version = 0; version < due.length; version++) {
            for (int rule = 0; rule < 2; rule++) {
                for (int what = 0; what < 3; what++) {
                    Due.is("rules(" + version + ", " + rule + ", " + what + ")", x.rules(version, rule, what),
                            due[version][rule][what]);
                }
            }
        }
        Due.is("rules(-1, 0, 0)", x.rules(-1, 0, 0), BAD);
        Due.is("rules(5, 0, 0)", x.rules(5, 0, 0), BAD);
        Due.is("rules(0, -1, 0)", x.rules(0, -1, 0), BAD);
        Due.is("rules(0, 2, 0)", x.rules(0, 2, 0), BAD);
        Due.is("rules(4, 8, 0)", x.rules(4, 8, 0), BAD);
        Due.is("rules(0, 0, -1)", x.rules(0, 0, -1), BAD);
        Due.is("rules(0, 0, 3)", x.rules(0, 0, 3), BAD);
        x.apply(0, 60);
        x.alike(true);
        tell(x, "a out 1/0", 10, 5);
        x.apply(0, 60);
        x.row(0, 0, 0, 0);
        Due.is("rules(6, 0, 0) of one that is off", x.rules(6, 0, 0), 1);
        Due.is("rules(6, 0, 1)", x.rules(6, 0, 1), 5);
        Due.is("rules(6, 0, 2)", x.rules(6, 0, 2), 0);
        Due.is("rules(5, 0, 2)", x.rules(5, 0, 2), 1);
    }

    private static void promise18() {
        Due.in("18 off");
        RuleBroadcast x = with("a out 1/v", "b out 1");
        x.tasks(3);
        Due.is("off() of what is not applied", x.off(0, 0), BAD);
        Due.is("off(0, 8)", x.off(0, 8), BAD);
        x.apply(0, 60);
        x.apply(1, 60);
        Due.is("off(0, 0)", x.off(0, 0), 0);
        x.row(0, 0, 0, 0);
        Due.is("off(0, 0) by its own", x.off(0, 0), 1);
        Due.is("off(1, 0)", x.off(1, 0), 0);
        x.alike(true);
        x.row(1, 0, 0, 0);
        x.tasks(2);
        x.tasks(3);
        Due.is("count(1)", x.count(1), 3);
        RuleBroadcast y = with("a out 1/v", "b out 1");
        y.tasks(2);
        y.alike(true);
        y.apply(0, 60);
        y.row(0, 0, 0, 0);
        y.apply(1, 2);
        Due.is("off(1, 0) before the change", y.off(1, 0), 0);
        y.apply(1, 1);
        Due.is("off(1, 0) by the version", y.off(1, 0), 1);
        Due.is("off(1, 1)", y.off(1, 1), 0);
        tell(y, "a out 2/v", 10, 4);
        Due.is("off(1, 0) until it is applied", y.off(1, 0), 1);
        y.apply(1, 1);
        y.apply(0, 60);
        Due.is("off(1, 0) of a text told anew", y.off(1, 0), 0);
        Due.is("off(0, 0) of a text told anew", y.off(0, 0), 0);
        Due.is("off(2, 0)", y.off(2, 0), BAD);
        Due.is("off(-1, 0)", y.off(-1, 0), BAD);
        Due.is("off(0, -1)", y.off(0, -1), BAD);
        Due.is("off(0, 2)", y.off(0, 2), BAD);
        Due.is("off(0, 8)", y.off(0, 8), BAD);
        y.drop(1, 10);
        Due.is("off(0, 1) before it is dropped here", y.off(0, 1), 0);
        y.apply(0, 60);
        Due.is("off(0, 1) behind it", y.off(0, 1), BAD);
    }

    private static void promise19And20() {
        Due.in("19 change, 20 when");
        RuleBroadcast x = new RuleBroadcast();
        tell(x, "a out 1", -7, 1);
        tell(x, "b out 1/v", -7, 2);
        x.mark();
        x.drop(0, MAX - 1);
        x.alike(true);
        x.apply(0, 60);
        x.row(0, 0, MAX, 0);
        x.restore(0);
        int[][] due = {{1, 0, NONE}, {1, 1, NONE}, {2, 0, NONE}, {3, 1, NONE}, {4, NONE, 2}};
        long[] times = {-7, -7, MAX - 1, MAX, MAX};
        for (int n = 1; n <= 5; n++) {
            for (int what = 0; what < 3; what++) {
                Due.is("change(" + n + ", " + what + ")", x.change(n, what), due[n - 1][what]);
            }
            Due.is("change(" + n + ", 3)", x.change(n, 3), BAD);
            Due.is("change(" + n + ", -1)", x.change(n, -1), BAD);
            Due.is("when(" + n + ")", x.when(n), times[n - 1]);
        }
        for (int n : new int[] {0, -1, 6, 61, Integer.MIN_VALUE, Integer.MAX_VALUE}) {
            Due.is("change(" + n + ", 0)", x.change(n, 0), BAD);
            Due.is("when(" + n + ")", x.when(n), 0);
        }
    }

    private static void promise21() {
        Due.in("21 failed");
        RuleBroadcast x = with("c out 1", "a out 1%v", "b out pick(v:1)");
        x.tasks(2);
        x.apply(0, 60);
        x.apply(1, 60);
        x.goes(0, 0, 0, 0);
        x.tries(1, 0, 0, 0);
        Due.is("failed(0, 0): what is tried is none", x.failed(0, 0), 0);
        x.row(0, 0, 0, 1);
        Due.is("failed(0, 0)", x.failed(0, 0), 2);
        Due.is("failed(0, 1)", x.failed(0, 1), 2);
        Due.is("failed(0, 2)", x.failed(0, 2), 3);
        x.row(0, 0, 0, 0);
        Due.is("failed(0, 0), the latest", x.failed(0, 0), 1);
        Due.is("failed(0, 1)", x.failed(0, 1), 1);
        Due.is("failed(0, 2)", x.failed(0, 2), 2);
        x.row(0, 0, 0, 0);
        Due.is("failed(0, 0) stays", x.failed(0, 0), 1);
        Due.is("failed(1, 0)", x.failed(1, 0), 0);
        Due.is("failed(1, 1)", x.failed(1, 1), NONE);
        Due.is("failed(1, 2)", x.failed(1, 2), NONE);
        Due.is("failed(0, 3)", x.failed(0, 3), BAD);
        Due.is("failed(0, -1)", x.failed(0, -1), BAD);
        Due.is("failed(2, 0)", x.failed(2, 0), BAD);
        Due.is("failed(-1, 0)", x.failed(-1, 0), BAD);
    }

    private static void promise22() {
        Due.in("22 tries");
        RuleBroadcast x = with("a if v>n out 10/v,pick(k:1),t", "b by 1/0 out 1");
        Due.is("tries() without anything applied", x.tries(0, 0, 0, 1), 3);
        Due.is("tries() whose test does not hold", x.tries(0, 0, 0, 0), 0);
        Due.is("tries() of failure 2", x.tries(0, 1, 0, 1), -12);
        Due.is("tries() does not look at by", x.tries(1, 0, 0, 0), 1);
        Due.is("tries(2)", x.tries(2, 0, 0, 0), BAD);
        Due.is("tries(-1)", x.tries(-1, 0, 0, 0), BAD);
        Due.is("tries(8)", x.tries(8, 0, 0, 0), BAD);
        Due.is("nothing came out", x.count(40), 0);
        Due.is("nothing was judged", x.count(4), 0);
        Due.is("no failure", x.count(5), 0);
        x.apply(0, 60);
        x.alike(true);
        x.row(0, 0, 0, 0);
        x.row(0, 9, 0, 5);
        Due.is("it is off", x.rules(3, 0, 2), 0);
        Due.is("tries() of what is off, n being 0", x.tries(0, 0, 0, 1), 3);
        tell(x, "a out 1", 10, 4);
        Due.is("tries() of the latest text", x.tries(0, 0, 0, 1), 1);
        x.drop(0, 10);
        Due.is("tries() of what was dropped", x.tries(0, 0, 0, 1), BAD);
    }

    private static void promise23() {
        Due.in("23 mark");
        RuleBroadcast x = with("a out 1");
        for (int i = 0; i < 4; i++) {
            Due.is("count(6)", x.count(6), i);
            Due.is("mark()", x.mark(), i);
        }
        Due.is("mark() of a fifth", x.mark(), FULL);
        Due.is("count(6)", x.count(6), 4);
        Due.is("count(1)", x.count(1), 1);
        Due.is("restore(3)", x.restore(3), 2);
        Due.is("mark() behind a restore", x.mark(), FULL);
    }

    private static void promise24() {
        Due.in("24 restore");
        RuleBroadcast empty = new RuleBroadcast();
        Due.is("restore(0)", empty.restore(0), BAD);
        empty.mark();
        Due.is("restore(-1)", empty.restore(-1), BAD);
        Due.is("restore(1)", empty.restore(1), BAD);
        Due.is("restore(0) to nothing", empty.restore(0), 1);
        Due.is("when(1)", empty.when(1), 0);
        Due.is("change(1, 2)", empty.change(1, 2), 0);
        Due.is("a time below 0", empty.rule(-1), BAD);
        RuleBroadcast one = with("a out 1");
        one.mark();
        Due.is("restore(0)", one.restore(0), 2);
        Due.is("when(2), of the one before", one.when(2), 10);
        RuleBroadcast x = with("a out 1/v", "b out 1");
        x.alike(true);
        x.apply(0, 60);
        x.mark();
        x.row(0, 0, 33, 0);
        x.drop(1, 34);
        tell(x, "c out 1,2,3", 35, 5);
        x.apply(0, 60);
        Due.is("row", x.row(0, 0, 0, 1), 3);
        Due.is("restore(0)", x.restore(0), 6);
        Due.is("when(6)", x.when(6), 35);
        Due.is("rules(6, 0, 2), on as in the mark", x.rules(6, 0, 2), 1);
        Due.is("rules(6, 0, 1)", x.rules(6, 0, 1), 1);
        Due.is("rules(6, 1, 1)", x.rules(6, 1, 1), 2);
        Due.is("rules(6, 2, 0)", x.rules(6, 2, 0), 0);
        Due.is("rules(5, 2, 0)", x.rules(5, 2, 0), 1);
        Due.is("count(2)", x.count(2), 3);
        Due.is("it is not applied at once", x.count(10), 5);
        Due.is("row", x.row(0, 0, 0, 1), 3);
        Due.is("off(0, 0): its offs are gone, the version's is not", x.off(0, 0), 1);
        x.apply(0, 1);
        Due.is("off(0, 0)", x.off(0, 0), 0);
        Due.is("row() as before", x.row(0, 0, 0, 1), 2);
        restoreOfTasks();
        restoreOfTaskZero();
        restoreAndFull();
    }

    private static void restoreOfTaskZero() {
        RuleBroadcast x = with("a out 1/v", "b out 1");
        x.tasks(2);
        x.asOf(true);
        x.row(1, 0, 10, 0);
        x.apply(0, 60);
        x.row(0, 0, 10, 0);
        x.mark();
        x.tasks(1);
        Due.is("restore(0)", x.restore(0), 3);
        Due.is("off(0, 0) stays, it was so then", x.off(0, 0), 1);
        Due.is("count(3), none waits at a task that is not there", x.count(3), 0);
    }

    private static void restoreOfTasks() {
        RuleBroadcast x = with("a out 1/v", "b out pick(v:1)");
        x.tasks(3);
        for (int i = 0; i < 3; i++) {
            x.apply(i, 60);
        }
        x.row(1, 0, 0, 0);
        x.row(2, 0, 0, 0);
        x.tasks(2);
        Due.is("mark()", x.mark(), 0);
        x.row(0, 0, 0, 0);
        x.row(0, 0, 0, 1);
        x.tasks(3);
        Due.is("off(2, 0)", x.off(2, 0), 1);
        x.asOf(true);
        tell(x, "c out 1", 20, 3);
        x.row(0, 0, 20, 0);
        x.row(1, 0, 20, 0);
        x.row(2, 0, 20, 0);
        Due.is("restore(0)", x.restore(0), 4);
        Due.is("off(0, 0)", x.off(0, 0), 0);
        Due.is("off(0, 1)", x.off(0, 1), 0);
        Due.is("off(1, 0), as it was", x.off(1, 0), 1);
        Due.is("off(2, 0), there was no such task", x.off(2, 0), 0);
        Due.is("count(3)", x.count(3), 3);
        Due.is("count(30)", x.count(30), 0);
        Due.is("count(32)", x.count(32), 0);
        x.apply(0, 60);
        Due.is("count(20)", x.count(20), 2);
        x.mark();
        tell(x, "a out 3", 20, 5);
        Due.is("restore(1), back at a version behind a back", x.restore(1), 6);
        Due.is("change(6, 2)", x.change(6, 2), 4);
        Due.is("rules(6, 0, 1)", x.rules(6, 0, 1), 1);
        Due.is("rules(6, 2, 0)", x.rules(6, 2, 0), 0);
    }

    private static void restoreAndFull() {
        RuleBroadcast x = with("a out 1/v");
        x.mark();
        for (int i = 2; i <= 59; i++) {
            tell(x, "a out 1/v", 10, i);
        }
        x.apply(0, 60);
        Due.is("restore(0)", x.restore(0), 60);
        x.row(0, 0, 0, 0);
        Due.is("off(0, 0)", x.off(0, 0), 1);
        Due.is("restore(0)", x.restore(0), FULL);
        Due.is("restore(1)", x.restore(1), BAD);
        Due.is("off(0, 0) stays", x.off(0, 0), 1);
        Due.is("off(0, 0) of text 59", x.failed(0, 2), 59);
        Due.is("apply(0, 60)", x.apply(0, 60), 1);
        Due.is("off(0, 0) of text 1", x.off(0, 0), 0);
    }

    private static void promise25() {
        Due.in("25 same");
        RuleBroadcast x = with("a out 1/v", "b out 1");
        x.tasks(2);
        Due.is("same(0, 1) of nothing", x.same(0, 1), 1);
        Due.is("same(0, 0)", x.same(0, 0), 1);
        Due.is("same(0, 2)", x.same(0, 2), BAD);
        Due.is("same(2, 0)", x.same(2, 0), BAD);
        Due.is("same(-1, 0)", x.same(-1, 0), BAD);
        Due.is("same(0, -1)", x.same(0, -1), BAD);
        x.apply(0, 60);
        Due.is("same(0, 1), rules", x.same(0, 1), 0);
        Due.is("same(1, 0), rules", x.same(1, 0), 0);
        x.apply(1, 60);
        Due.is("same(0, 1)", x.same(0, 1), 1);
        x.row(0, 0, 0, 0);
        Due.is("same(0, 1), off", x.same(0, 1), 0);
        Due.is("same(1, 0), off", x.same(1, 0), 0);
        x.row(1, 0, 0, 0);
        Due.is("same(0, 1), off at both", x.same(0, 1), 1);
        tell(x, "b out 1", 10, 3);
        x.apply(0, 60);
        Due.is("same(0, 1), another text, though of the same bytes", x.same(0, 1), 0);
        x.drop(0, 10);
        x.apply(1, 60);
        Due.is("same(0, 1), one is dropped", x.same(0, 1), 0);
        x.apply(0, 60);
        Due.is("same(0, 1)", x.same(0, 1), 1);
        RuleBroadcast y = with("a out 1/v");
        y.tasks(2);
        y.alike(true);
        y.apply(0, 60);
        y.apply(1, 60);
        y.row(0, 0, 0, 0);
        y.apply(1, 60);
        Due.is("same(0, 1), off by its own and off by the version", y.same(0, 1), 1);
        tell(y, "a out 2", 10, 3);
        y.apply(0, 60);
        y.apply(1, 60);
        Due.is("same(0, 1), offs of texts that they hold no more", y.same(0, 1), 1);
    }

    private static void promise26() {
        Due.in("26 count");
        RuleBroadcast x = with("a out 1/v", "b out 1,2", "a out 2/v");
        x.tasks(3);
        x.apply(1, 60);
        x.row(1, 0, 0, 0);
        x.row(1, 0, 0, 1);
        x.row(0, 0, 0, 1);
        x.asOf(true);
        x.row(0, 0, 10, 0);
        x.row(2, 0, 10, 0);
        x.mark();
        int[][] due = {
            {0, 3}, {1, 3}, {2, 2}, {3, 0}, {4, 3}, {5, 1}, {6, 1}, {10, 0}, {11, 3}, {12, 0}, {20, 1}, {21, 2},
            {22, 0}, {30, 1}, {31, 0}, {32, 1}, {40, 0}, {41, 4}, {42, 0}, {7, BAD}, {8, BAD}, {9, BAD}, {-1, BAD},
            {13, BAD}, {23, BAD}, {33, BAD}, {43, BAD}, {16, BAD}, {19, BAD}, {50, BAD}, {51, BAD}, {100, BAD},
            {110, BAD}, {-10, BAD}, {-20, BAD}, {Integer.MIN_VALUE, BAD}, {Integer.MAX_VALUE, BAD}};
        for (int[] one : due) {
            Due.is("count(" + one[0] + ")", x.count(one[0]), one[1]);
        }
        x.restore(0);
        Due.is("count(3)", x.count(3), 2);
        x.tasks(1);
        Due.is("count(4), of all tasks that ever were", x.count(4), 3);
        Due.is("count(5)", x.count(5), 1);
        Due.is("count(11)", x.count(11), BAD);
    }

    private static void promise27() {
        Due.in("27 clear");
        RuleBroadcast x = new RuleBroadcast();
        Due.is("clear() of nothing", x.clear(), 0);
        asAtTheBeginning(x);
        tell(x, "a by 1 out 1/v", 10, 1);
        tell(x, "b out 1,2", 20, 2);
        x.tasks(3);
        x.apply(0, 60);
        x.alike(true);
        x.row(0, 0, 0, 0);
        x.asOf(true);
        x.row(1, 0, 20, 0);
        x.mark();
        x.restore(0);
        x.row(2, 0, 20, 0);
        tell(x, "a out", 20, -15);
        Due.feed(x, "a");
        Due.is("clear()", x.clear(), 4);
        asAtTheBeginning(x);
        tell(x, "c out 3", -50, 1);
        Due.is("rules(1, 0, 1)", x.rules(1, 0, 1), 1);
        Due.is("rules(1, 1, 0)", x.rules(1, 1, 0), BAD);
        x.tasks(3);
        Due.is("count(32)", x.count(32), 0);
        x.apply(0, 1);
        Due.is("no offs of before", x.off(0, 0), 0);
        Due.is("row", x.row(0, 0, 0, 0), 1);
        Due.is("goes() by k", x.goes(0, 5, 0, 0), 2);
        Due.is("clear() again", x.clear(), 1);
    }
}
