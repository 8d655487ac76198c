import java.util.ArrayList;
import java.util.List;
import java.util.Random;
import java.util.Set;
import java.util.TreeSet;
import java.util.regex.Matcher;
import java.util.regex.Pattern;

/**
 * Promise 4: FAULTS told by hand, and FAULTS of many texts by the document's own word: the first byte at which no
 * such TEXT can go on, found by trying how each beginning could go on.
 */
public final class FaultTest {
    private static final Object[][] KERBS = {
        {"", 0}, {" ", 1}, {"s", -1}, {" s ", -1}, {"k", 1}, {"k ", 2}, {"g", 1}, {"s;", 2}, {"s; ", 3}, {";s", 0},
        {"s;;s", 2}, {"S", 0}, {"sl", 2}, {"sl ", 3}, {"sl;", 2}, {"slw", 2}, {"sl3", -1}, {"sl03", -1}, {"sl003", 4},
        {"sl00", 3}, {"sl10", 3}, {"sl100", 4}, {"sl999;", 4}, {"sl1 2", 4}, {"sl0 1", 2}, {"s3", 1}, {"s123", 1},
        {"sl3w4", -1}, {"sw9l9", -1}, {"sl3w4l3", 5}, {"sl3l", 3}, {"sa1", 1}, {"kl2;s", -1}, {"kl20;s", -1},
        {"kl1", 2}, {"kl20", 4}, {"kl99", 3}, {"kl991", 4}, {"kl0;s", 2}, {"kl00;s", 3}, {"kl02;s", -1},
        {"kl5q99o99;s", -1}, {"kq100;s", 4}, {"ko0q00;s", -1}, {"kw1", 1}, {"ka1", 1}, {"ga19;s", -1}, {"ga20;s", 3},
        {"ga00;s", -1}, {"gl9;s", -1}, {"gl10;s", 3}, {"gl0", 2}, {"ga0l1a2;s", 5}, {"gw1", 1}, {"k;k", 2},
        {"s;k;k", 4}, {"s;s;s;s", -1}, {"s;s;s;s;s", 8}, {"s;g;g;g;g", -1}, {"g;g;g;g;g;s", 8}, {"g;g;g;g", 7},
        {"k;s;s;s;s;g;g;g;g", -1}, {"k;s;s;s;s;g;g;g;g;", 18}, {"k;s;s;s;s;g;g;g;g;s", 18}, {"s\t", 1}, {"s\u00ff", 1},
        {"y:p", 0}, {"s,s", 1}, {"k l 1 2 ; s w 3", 4}, {"k l 12 ; s w 3 ", -1}, {"ss", 1}, {"sk", 1}};

    private static final Object[][] RULES = {
        {"", 0}, {"  ", 2}, {"y", 1}, {"y:", 2}, {"y :", 3}, {"z", 0}, {"Y:1", 0}, {"y1", 1}, {"y:1", -1}, {"y:1;", 4},
        {"y:1;y", 5}, {"y:1;y:p", -1}, {"y:1;;", 4}, {"y:1 2", 4}, {"y:1234", -1}, {"y:12345", 6}, {"y:00000", 6},
        {"y:p+", 4}, {"y:+p", 2}, {"y:-1", 2}, {"y:p+-1", 4}, {"y:p=1", 5}, {"y:p=1?", 6}, {"y:p=1?2", -1},
        {"y:p=1?2?3", 7}, {"y:p=1=2", 5}, {"y:p?1", 3}, {"y:(p=1)?1", -1}, {"y:(p)?1", 4}, {"y:(p=1?1", 6},
        {"y:(p=1", 6}, {"y:[p", 4}, {"y:[p]", -1}, {"y:[p)", 4}, {"y:[p=1]", 4}, {"y:()", 3}, {"y:[]", 3}, {"y:!p", 4},
        {"y:!p=1", 6}, {"y:!p=1?1", -1}, {"y:!", 3}, {"y:!?", 3}, {"y:p&", 3}, {"y:p|p", 3}, {"y:p=1&", 6},
        {"y:p=1&q", 6}, {"y:p=1|!p=2&(p=3)?p", -1}, {"y:(p=1)", 7}, {"y:(p=1)+1", 7}, {"y:(p=1)=1", 7}, {"y:p=1?q", 6},
        {"y:p=1?(p)", 6}, {"y:p=1?!p", 6}, {"y:p=(1)", 4}, {"y:p=!1", 4}, {"y:1p", 3}, {"y:pl", 3}, {"y:p l", 4},
        {"y:[[[[[[p]]]]]]", -1}, {"y:[[[[[[[p", 8}, {"y:((((((p=1))))))?1", -1}, {"y:(((((((", 8}, {"y:!!!!!!p=1?1", -1},
        {"y:!!!!!!!p", 8}, {"y:!!!!!!(p", 8}, {"y:!!!!!![p", 8}, {"y:![[[[[p]]]]]=1?1", -1}, {"y:!([[[[[p", 8},
        {"y:p=[[[[[[1]]]]]]?1", -1}, {"y:p=[[[[[[[1", 10}, {"y:[p]+[p]+[p]+[p]+[p]+[p]+[p]", -1},
        {"y:!p=1&!p=1&!p=1&!p=1&!p=1&!p=1&!p=1?1", -1}, {"y:(p=1))", 7}, {"y:p]", 3}, {"y:p<1&p>2|p=3?p*l/b+a-n", -1},
        {"y:1?1", 3}, {" y : ( p = 1 ) ? [ p ] ", -1}, {"y:p;k", 4}, {"y:p=1?p;y:(p=2)?1;y:!p=3?2;y:0", -1}};

    public static void main(String[] args) {
        KerbSide x = new KerbSide();
        told(x, 0, KERBS);
        told(x, 1, RULES);
        Check.due("no such sort", x.fault(2), -2);
        Check.due("no such sort", x.fault(-1), -2);
        Random random = new Random(5);
        for (int i = 0; i < 6000; i++) {
            String text = changed(kerbText(random), "kslgqoaw;; 0125", random);
            Check.due("KERB " + text, Check.fault(x, 0, text), kerbFault(text));
        }
        for (int i = 0; i < 6000; i++) {
            String text = changed(ruleText(random), "y:;?|&!()[]=<>+-*/plban 19", random);
            Check.due("RULE " + text, Check.fault(x, 1, text), ruleFault(text));
        }
        Check.finish();
    }

    private static void told(KerbSide x, int sort, Object[][] texts) {
        for (Object[] row : texts) {
            String text = (String) row[0];
            Check.due("fault " + sort + " of <" + text + ">", Check.fault(x, sort, text), (Integer) row[1]);
            Check.due("the TAPE stays", x.count(3), text.length());
        }
    }

    private static String kerbText(Random random) {
        String[] ways = {"kl%d", "s", "sl%d", "sw%d", "g", "ga%d", "gl%d", "kq%do%d", "kl%dq%d", "ga%dl%d", "sl%dw%d", "s"};
        StringBuilder text = new StringBuilder();
        int clauses = 1 + random.nextInt(4);
        for (int i = 0; i < clauses; i++) {
            String way = ways[random.nextInt(ways.length)];
            text.append(i == 0 ? "" : ";").append(String.format(way, random.nextInt(22), random.nextInt(12)));
        }
        return text.toString();
    }

    private static String ruleText(Random random) {
        RuleMaker maker = new RuleMaker(random.nextLong());
        maker.rule();
        return maker.text().substring(0, Math.min(maker.text().length(), 24));
    }

    private static String changed(String text, String signs, Random random) {
        StringBuilder out = new StringBuilder(text);
        int changes = random.nextInt(3);
        for (int i = 0; i < changes; i++) {
            int at = random.nextInt(out.length() + 1);
            String sign = signs.substring(random.nextInt(signs.length())).substring(0, 1);
            switch (random.nextInt(3)) {
                case 0 -> out.insert(at, sign);
                case 1 -> out.replace(at, Math.min(at + 1, out.length()), sign);
                default -> out.delete(at, Math.min(at + 1, out.length()));
            }
        }
        return out.substring(0, random.nextInt(4) == 0 ? random.nextInt(out.length() + 1) : out.length());
    }

    // KERBS

    private static final Pattern CLAUSE = Pattern.compile(" *([ksg])((?: *[a-z] *[0-9]{1,2})*) *");
    private static final Pattern ITEM = Pattern.compile("([a-z]) *([0-9]+)");
    private static final String[] PLAIN_ENDS = {"", ";s", "s", "k;s", "g;s", "k", "g"};
    private static final String[] DIGIT_ENDS = {"0", "1", "5", "0;s", "1;s", "5;s"};

    private static boolean isKerb(String text) {
        int[] told = new int[128];
        for (String clause : text.split(";", -1)) {
            Matcher m = CLAUSE.matcher(clause);
            if (!m.matches()) {
                return false;
            }
            char kind = m.group(1).charAt(0);
            told[kind]++;
            Matcher items = ITEM.matcher(m.group(2));
            String seen = "";
            while (items.find()) {
                String bounds = switch (kind + items.group(1)) {
                    case "kl" -> "2 20";
                    case "kq", "ko" -> "0 99";
                    case "sl", "sw", "gl" -> "1 9";
                    case "ga" -> "0 19";
                    default -> "1 0";
                };
                int n = Integer.parseInt(items.group(2));
                if (seen.contains(items.group(1)) || n < Integer.parseInt(bounds.split(" ")[0])
                    || n > Integer.parseInt(bounds.split(" ")[1])) {
                    return false;
                }
                seen += items.group(1);
            }
        }
        return told['k'] <= 1 && told['s'] >= 1 && told['s'] <= 4 && told['g'] <= 4;
    }

    private static boolean goesOn(String text, String[] ends) {
        for (String end : ends) {
            if (isKerb(text + end)) {
                return true;
            }
        }
        return false;
    }

    private static boolean digit(String text, int at) {
        return at >= 0 && at < text.length() && text.charAt(at) >= '0' && text.charAt(at) <= '9';
    }

    private static int kerbFault(String text) {
        if (isKerb(text)) {
            return -1;
        }
        int f = 0;
        while (f < text.length() && (goesOn(text.substring(0, f + 1), PLAIN_ENDS)
            || goesOn(text.substring(0, f + 1), DIGIT_ENDS))) {
            f++;
        }
        if (digit(text, f)) {
            // a second digit leads out of bounds, but a third one behind it is what is wrong
            return digit(text, f - 1) && digit(text, f + 1) && !digit(text, f - 2) ? f + 1 : f;
        }
        boolean outOfBounds = digit(text, f - 1) && !goesOn(text.substring(0, f), PLAIN_ENDS);
        return outOfBounds ? f - 1 : f;
    }

    // RULES: each part tells all the places where it can end

    private static List<String> signs(String text) {
        List<String> signs = new ArrayList<>();
        for (int i = 0; i < text.length();) {
            int from = i;
            while (digit(text, i)) {
                i++;
            }
            i = Math.max(i, from + 1);
            String sign = text.substring(from, i);
            if (!sign.equals(" ")) {
                signs.add(sign);
            }
        }
        return signs;
    }

    private static boolean is(List<String> s, int at, String among) {
        return at < s.size() && s.get(at).length() == 1 && among.contains(s.get(at));
    }

    private static Set<Integer> chain(List<String> s, int from, int depth, int level) {
        String[] between = {"|", "&", "+-", "*/"};
        Set<Integer> ends = new TreeSet<>();
        List<Integer> open = new ArrayList<>(part(s, from, depth, level));
        while (!open.isEmpty()) {
            int end = open.remove(0);
            if (ends.add(end) && is(s, end, between[level])) {
                open.addAll(part(s, end + 1, depth, level));
            }
        }
        return ends;
    }

    private static Set<Integer> part(List<String> s, int from, int depth, int level) {
        return switch (level) {
            case 0 -> chain(s, from, depth, 1);
            case 1 -> unit(s, from, depth);
            case 2 -> chain(s, from, depth, 3);
            default -> atom(s, from, depth);
        };
    }

    private static Set<Integer> unit(List<String> s, int from, int depth) {
        Set<Integer> ends = new TreeSet<>();
        if (is(s, from, "!") && depth < 6) {
            ends.addAll(unit(s, from + 1, depth + 1));
        }
        if (is(s, from, "(") && depth < 6) {
            for (int end : chain(s, from + 1, depth + 1, 0)) {
                if (is(s, end, ")")) {
                    ends.add(end + 1);
                }
            }
        }
        for (int end : chain(s, from, depth, 2)) {
            if (is(s, end, "=<>")) {
                ends.addAll(chain(s, end + 1, depth, 2));
            }
        }
        return ends;
    }

    private static Set<Integer> atom(List<String> s, int from, int depth) {
        Set<Integer> ends = new TreeSet<>();
        if (is(s, from, "plban") || from < s.size() && s.get(from).matches("[0-9]{1,4}")) {
            ends.add(from + 1);
        }
        if (is(s, from, "[") && depth < 6) {
            for (int end : chain(s, from + 1, depth + 1, 2)) {
                if (is(s, end, "]")) {
                    ends.add(end + 1);
                }
            }
        }
        return ends;
    }

    private static Set<Integer> clause(List<String> s, int from) {
        Set<Integer> ends = new TreeSet<>();
        if (is(s, from, "y") && is(s, from + 1, ":")) {
            ends.addAll(chain(s, from + 2, 0, 2));
            for (int end : chain(s, from + 2, 0, 0)) {
                if (is(s, end, "?")) {
                    ends.addAll(chain(s, end + 1, 0, 2));
                }
            }
        }
        return ends;
    }

    private static boolean isRule(String text) {
        List<String> s = signs(text);
        Set<Integer> starts = new TreeSet<>(Set.of(0));
        for (int from = 0; from <= s.size(); from++) {
            if (starts.contains(from)) {
                for (int end : clause(s, from)) {
                    if (end == s.size()) {
                        return true;
                    }
                    if (is(s, end, ";")) {
                        starts.add(end + 1);
                    }
                }
            }
        }
        return false;
    }

    private static boolean ruleGoesOn(String text) {
        List<String> ends = new ArrayList<>(List.of("", "1", "y:1", ":1"));
        StringBuilder open = new StringBuilder();
        for (char sign : text.toCharArray()) {
            if (sign == '(' || sign == '[') {
                open.append(sign);
            } else if ((sign == ')' || sign == ']') && open.length() > 0) {
                open.setLength(open.length() - 1);
            }
        }
        for (char sign : open.reverse().toString().toCharArray()) {
            List<String> longer = new ArrayList<>();
            for (String end : ends) {
                longer.add(end + (sign == '(' ? ")" : "]"));
                if (sign == '(') {
                    longer.add(end + "=1)");
                }
            }
            ends = longer;
        }
        for (String end : ends) {
            if (isRule(text + end) || isRule(text + end + "?1") || isRule(text + end + "=1?1")) {
                return true;
            }
        }
        return false;
    }

    private static int ruleFault(String text) {
        if (isRule(text)) {
            return -1;
        }
        int f = 0;
        while (f < text.length() && ruleGoesOn(text.substring(0, f + 1))) {
            f++;
        }
        return f;
    }
}
