import java.util.ArrayDeque;
import java.util.ArrayList;
import java.util.Deque;
import java.util.List;
import java.util.regex.Matcher;
import java.util.regex.Pattern;

/**
 * A text of the model's. Unlike the class it finds the fault token by token with a row of what is
 * open, and tells a value by splitting the tokens where the weakest of them stands.
 */
final class ModelLaw {
    private static final Pattern TOKEN = Pattern.compile("[a-z]+|[0-9]+|[();+*<=-]");
    private static final List<String> KEYS = List.of("reaches", "costs", "fades");
    private static final List<String> NAMES =
        List.of("breath", "deep", "strong", "sort", "hour", "more");
    private static final int MOST_OPEN = 5;

    /** Where the fault is; -1: there is none. */
    final int fault;
    private final List<List<String>> parts = new ArrayList<>();
    private final List<Split> split = new ArrayList<>();

    private enum Wants { KEY, ONE_OR_NOT, ONE, JOINT }

    private Wants wants = Wants.KEY;
    /** What is open, the last first: ( with < or = seen ahead of it as [, not as n, - as -. */
    private final Deque<Character> open = new ArrayDeque<>();
    private boolean isCompared;

    ModelLaw(String said) {
        fault = faultOf(said);
    }

    private int faultOf(String said) {
        Matcher token = TOKEN.matcher(said);
        int at = 0;
        while (true) {
            while (at < said.length() && " \n".indexOf(said.charAt(at)) >= 0) {
                at++;
            }
            if (at == said.length()) {
                return parts.size() == 3 && wants == Wants.KEY ? -1 : at;
            }
            token.region(at, said.length());
            if (!token.lookingAt() || !canStand(token.group())) {
                return at;
            }
            at = token.end();
        }
    }

    private boolean canStand(String token) {
        switch (wants) {
            case KEY: return canBeKey(token);
            case JOINT: return canBeJoint(token);
            default: return canBeOne(token);
        }
    }

    private boolean canBeKey(String token) {
        if (parts.size() == 3 || !token.equals(KEYS.get(parts.size()))) {
            return false;
        }
        parts.add(new ArrayList<>());
        isCompared = false;
        wants = Wants.ONE_OR_NOT;
        return true;
    }

    private boolean canBeOne(String token) {
        if (token.matches("[0-9]{1,4}") || NAMES.contains(token)) {
            endMinuses();
            wants = Wants.JOINT;
        } else if (open.size() == MOST_OPEN) {
            return false;
        } else if (token.equals("(")) {
            open.push(isCompared ? '[' : '(');
            isCompared = false;
            wants = Wants.ONE_OR_NOT;
        } else if (token.equals("-")) {
            open.push('-');
            wants = Wants.ONE;
        } else if (token.equals("not") && wants == Wants.ONE_OR_NOT) {
            open.push('n');
        } else {
            return false;
        }
        keep(token);
        return true;
    }

    private boolean canBeJoint(String token) {
        switch (token) {
            case "+": case "-": case "*":
                wants = Wants.ONE;
                break;
            case "<": case "=":
                if (isCompared) {
                    return false;
                }
                isCompared = true;
                wants = Wants.ONE;
                break;
            case "and": case "or":
                endNots();
                isCompared = false;
                wants = Wants.ONE_OR_NOT;
                break;
            case ")":
                endNots();
                if (open.isEmpty()) {
                    return false;
                }
                isCompared = open.pop() == '[';
                endMinuses();
                break;
            case ";":
                endNots();
                wants = Wants.KEY;
                return open.isEmpty();
            default:
                return false;
        }
        keep(token);
        return true;
    }

    private void endMinuses() {
        while (!open.isEmpty() && open.peek() == '-') {
            open.pop();
        }
    }

    private void endNots() {
        while (!open.isEmpty() && open.peek() == 'n') {
            open.pop();
        }
    }

    private void keep(String token) {
        parts.get(parts.size() - 1).add(token);
    }

    /** What part says, held between 0 and 99. */
    int says(int part, int breath, int deep, int strong, int sort, int hour, int more) {
        while (split.size() < parts.size()) {
            split.add(new Split(parts.get(split.size())));
        }
        int value = split.get(part).value(new int[] {breath, deep, strong, sort, hour, more});
        return value < 0 ? 0 : value > 99 ? 99 : value;
    }

    /** Tokens split where the weakest of them stands, into what is left and right of it. */
    private static final class Split {
        private String weakest = "";
        private Split left;
        private Split right;
        private int name = -1;
        private int number;

        Split(List<String> e) {
            if (splitsAt(e, lastJoint(e, List.of("or"))) || splitsAt(e, lastJoint(e, List.of("and")))
                    || splitsBehind(e, "not") || splitsAt(e, lastJoint(e, List.of("<", "=")))
                    || splitsAt(e, lastJoint(e, List.of("+", "-")))
                    || splitsAt(e, lastJoint(e, List.of("*"))) || splitsBehind(e, "-")) {
                return;
            }
            if (e.get(0).equals("(")) {
                weakest = "(";
                right = new Split(e.subList(1, e.size() - 1));
            } else if (NAMES.contains(e.get(0))) {
                name = NAMES.indexOf(e.get(0));
            } else {
                number = Integer.parseInt(e.get(0));
            }
        }

        private boolean splitsAt(List<String> e, int at) {
            if (at > 0) {
                weakest = e.get(at);
                left = new Split(e.subList(0, at));
                right = new Split(e.subList(at + 1, e.size()));
            }
            return at > 0;
        }

        private boolean splitsBehind(List<String> e, String ahead) {
            boolean isAhead = e.get(0).equals(ahead);
            if (isAhead) {
                weakest = ahead;
                right = new Split(e.subList(1, e.size()));
            }
            return isAhead;
        }

        int value(int[] named) {
            if (right == null) {
                return name >= 0 ? named[name] : number;
            }
            int b = right.value(named);
            if (left == null) {
                return weakest.equals("(") ? b : weakest.equals("-") ? -b : b == 0 ? 1 : 0;
            }
            int a = left.value(named);
            switch (weakest) {
                case "or": return a != 0 || b != 0 ? 1 : 0;
                case "and": return a != 0 && b != 0 ? 1 : 0;
                case "<": return Integer.compare(a, b) < 0 ? 1 : 0;
                case "=": return a == b ? 1 : 0;
                case "+": return a + b;
                case "-": return a - b;
                default: return a * b;
            }
        }
    }

    /** The last of the joints that stands outside all ( ) and between two; 0: none does. */
    private static int lastJoint(List<String> e, List<String> joints) {
        int inside = 0;
        for (int i = e.size() - 1; i > 0; i--) {
            inside += e.get(i).equals(")") ? 1 : e.get(i).equals("(") ? -1 : 0;
            String ahead = e.get(i - 1);
            boolean isBetween = ahead.equals(")") || NAMES.contains(ahead)
                || Character.isDigit(ahead.charAt(0));
            if (inside == 0 && isBetween && joints.contains(e.get(i))) {
                return i;
            }
        }
        return 0;
    }
}
