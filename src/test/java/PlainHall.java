import java.util.ArrayDeque;
import java.util.ArrayList;
import java.util.Arrays;
import java.util.Comparator;
import java.util.Deque;
import java.util.List;
import java.util.NoSuchElementException;
import java.util.TreeSet;
import java.util.regex.Matcher;
import java.util.regex.Pattern;
import java.util.stream.IntStream;

/** The document once more, written with lists, sets and patterns, for ModelTest to compare with. */
public final class PlainHall {
    private static final Pattern TEXT = commandTexts();

    private static final class Guest {
        int feathers;
        int brim;
        int hat = -1;
        int touched;
        TreeSet<Integer> cover = new TreeSet<>();

        Guest copy() {
            Guest copy = new Guest();
            copy.feathers = feathers;
            copy.brim = brim;
            copy.hat = hat;
            copy.touched = touched;
            copy.cover = new TreeSet<>(cover);
            return copy;
        }
    }

    private static final class World {
        List<Guest> guests = new ArrayList<>();
        List<List<Integer>> queues = new ArrayList<>();
        int now;
        int swept;
        int lapsed;
        int taken;
        int won;

        World copy() {
            World copy = new World();
            guests.forEach(guest -> copy.guests.add(guest.copy()));
            queues.forEach(queue -> copy.queues.add(new ArrayList<>(queue)));
            copy.now = now;
            copy.swept = swept;
            copy.lapsed = lapsed;
            copy.taken = taken;
            copy.won = won;
            return copy;
        }
    }

    private World world = new World();
    private World saved;
    private final Deque<World> changes = new ArrayDeque<>();
    private String text = "";
    private String line = "";
    private Integer errorPosition;
    private Integer failedCommand;
    private Integer failedException;

    public PlainHall() {
        for (int chair = 0; chair < 40; chair++) {
            world.queues.add(new ArrayList<>());
        }
    }

    private static Pattern commandTexts() {
        String number = "\\d(\\d\\d?)?";
        String command = "(guest \\d\\d|hat \\d N|lift \\d|touch \\d|coat \\d N|fetch \\d|contest \\d N|pass N|sweep N|feather \\d)";
        String one = command.replace("N", number);
        return Pattern.compile(one + "(;" + one + ")*");
    }

    private void change() {
        changes.push(world.copy());
        if (changes.size() > 8) {
            changes.removeLast();
        }
    }

    private Guest known(int guest) {
        bounds(guest < 0 || guest >= world.guests.size());
        return world.guests.get(guest);
    }

    private static void chair(int chair) {
        bounds(chair < 0 || chair > 39);
    }

    private static void bounds(boolean bad) {
        if (bad) {
            throw new IndexOutOfBoundsException();
        }
    }

    private static void missing(boolean bad) {
        if (bad) {
            throw new NoSuchElementException();
        }
    }

    private static void state(boolean bad) {
        if (bad) {
            throw new IllegalStateException();
        }
    }

    private static void argument(boolean bad) {
        if (bad) {
            throw new IllegalArgumentException();
        }
    }

    private static void unsupported(boolean bad) {
        if (bad) {
            throw new UnsupportedOperationException();
        }
    }

    private int coverer(int chair) {
        return IntStream.range(0, world.guests.size()).filter(g -> world.guests.get(g).cover.contains(chair))
                .findFirst().orElse(-1);
    }

    private int coat(int guest) {
        return IntStream.range(0, 40).filter(c -> world.queues.get(c).contains(guest)).findFirst().orElse(-1);
    }

    public int addGuest(int feathers, int brim) {
        argument(feathers < 0 || feathers > 9 || brim < 0 || brim > 2);
        state(world.guests.size() == 8);
        change();
        Guest guest = new Guest();
        guest.feathers = feathers;
        guest.brim = brim;
        world.guests.add(guest);
        return world.guests.size() - 1;
    }

    public int giveFeather(int guest) {
        state(known(guest).feathers == 9);
        change();
        return ++known(guest).feathers;
    }

    private void put(Guest guest, int chair) {
        guest.hat = chair;
        guest.touched = world.now;
        guest.cover.add(chair);
        int left = chair - 1;
        while (chair - left <= guest.brim && left >= chair / 10 * 10 && coverer(left) < 0) {
            guest.cover.add(left--);
        }
        int right = chair + 1;
        while (right - chair <= guest.brim && right < chair / 10 * 10 + 10 && coverer(right) < 0) {
            guest.cover.add(right++);
        }
    }

    public int placeHat(int guest, int chair) {
        known(guest);
        chair(chair);
        state(known(guest).hat >= 0);
        unsupported(coverer(chair) >= 0);
        change();
        put(known(guest), chair);
        return known(guest).cover.size();
    }

    private void offer(TreeSet<Integer> chairs) {
        for (int chair : chairs) {
            List<Integer> queue = world.queues.get(chair);
            while (coverer(chair) < 0 && !queue.isEmpty()) {
                Guest owner = world.guests.get(queue.remove(0));
                if (owner.hat >= 0) {
                    world.lapsed++;
                } else {
                    world.taken++;
                    put(owner, chair);
                }
            }
        }
    }

    private TreeSet<Integer> lift(Guest guest) {
        TreeSet<Integer> chairs = guest.cover;
        guest.cover = new TreeSet<>();
        guest.hat = -1;
        return chairs;
    }

    public int removeHat(int guest) {
        missing(known(guest).hat < 0);
        change();
        TreeSet<Integer> chairs = lift(known(guest));
        offer(chairs);
        return chairs.size();
    }

    public int touchHat(int guest) {
        missing(known(guest).hat < 0);
        change();
        int idle = world.now - known(guest).touched;
        known(guest).touched = world.now;
        return idle;
    }

    public int guestCount() {
        return world.guests.size();
    }

    public int feathers(int guest) {
        return known(guest).feathers;
    }

    public int brim(int guest) {
        return known(guest).brim;
    }

    public boolean isPlaced(int guest) {
        return known(guest).hat >= 0;
    }

    public int hatChair(int guest) {
        missing(known(guest).hat < 0);
        return known(guest).hat;
    }

    public int coverSize(int guest) {
        return known(guest).cover.size();
    }

    public int idleMinutes(int guest) {
        missing(known(guest).hat < 0);
        return world.now - known(guest).touched;
    }

    public int leaveCoat(int guest, int chair) {
        known(guest);
        chair(chair);
        state(coat(guest) >= 0);
        List<Integer> queue = world.queues.get(chair);
        unsupported(coverer(chair) < 0 || coverer(chair) == guest || queue.size() == 3);
        change();
        queue = world.queues.get(chair);
        queue.add(guest);
        return queue.size() - 1;
    }

    public int takeCoat(int guest) {
        known(guest);
        int chair = coat(guest);
        missing(chair < 0);
        change();
        world.queues.get(chair).remove((Integer) guest);
        return chair;
    }

    public boolean hasCoatLeft(int guest) {
        known(guest);
        return coat(guest) >= 0;
    }

    public int coatChair(int guest) {
        known(guest);
        missing(coat(guest) < 0);
        return coat(guest);
    }

    public int coatCount(int chair) {
        chair(chair);
        return world.queues.get(chair).size();
    }

    public int coatOwner(int chair, int position) {
        chair(chair);
        missing(position < 0 || position >= coatCount(chair));
        return world.queues.get(chair).get(position);
    }

    public int nextClaimant(int chair) {
        chair(chair);
        return world.queues.get(chair).stream().filter(g -> world.guests.get(g).hat < 0).findFirst().orElseThrow();
    }

    public int nextClaimantByTime(int chair) {
        return nextClaimant(chair);
    }

    public boolean contest(int guest, int chair) {
        known(guest);
        chair(chair);
        missing(coverer(chair) < 0);
        state(known(guest).hat >= 0);
        change();
        Guest challenger = known(guest);
        Guest defender = world.guests.get(coverer(chair));
        if (challenger.feathers <= defender.feathers) {
            challenger.feathers -= challenger.feathers > 0 ? 1 : 0;
            return false;
        }
        world.won++;
        challenger.feathers -= defender.feathers;
        TreeSet<Integer> freed = new TreeSet<>();
        if (defender.hat == chair) {
            freed = lift(defender);
        } else {
            int step = chair < defender.hat ? -1 : 1;
            for (int lost = chair; defender.cover.remove(lost); lost += step) {
                freed.add(lost);
            }
        }
        put(challenger, chair);
        offer(freed);
        return true;
    }

    public boolean wouldWin(int guest, int chair) {
        known(guest);
        chair(chair);
        return coverer(chair) >= 0 && known(guest).hat < 0 && known(guest).feathers > known(coverer(chair)).feathers;
    }

    public int pass(int minutes) {
        argument(minutes < 1 || minutes > 60);
        change();
        return world.now += minutes;
    }

    public int sweep(int limit) {
        argument(limit < 1 || limit > 240);
        change();
        TreeSet<Integer> freed = new TreeSet<>();
        int removed = 0;
        for (Guest guest : world.guests) {
            if (guest.hat >= 0 && world.now - guest.touched >= limit) {
                freed.addAll(lift(guest));
                removed++;
            }
        }
        world.swept += removed;
        offer(freed);
        return removed;
    }

    public int now() {
        return world.now;
    }

    public int idlestGuest() {
        return IntStream.range(0, guestCount()).filter(this::isPlaced).boxed()
                .min(Comparator.comparing(g -> world.guests.get(g).touched)).orElseThrow();
    }

    public boolean isCovered(int chair) {
        chair(chair);
        return coverer(chair) >= 0;
    }

    public int covererOf(int chair) {
        chair(chair);
        missing(coverer(chair) < 0);
        return coverer(chair);
    }

    public long coveredMask() {
        return IntStream.range(0, 40).filter(this::isCovered).mapToLong(c -> 1L << c).sum();
    }

    public int coveredCount() {
        return (int) IntStream.range(0, 40).filter(this::isCovered).count();
    }

    public int coveredCountByHat() {
        return coveredCount();
    }

    public int longestFreeRun(int row) {
        bounds(row < 0 || row > 3);
        StringBuilder free = new StringBuilder();
        IntStream.range(row * 10, row * 10 + 10).forEach(c -> free.append(isCovered(c) ? ' ' : '.'));
        return Arrays.stream(free.toString().split(" ")).mapToInt(String::length).max().orElse(0);
    }

    public int longestFreeRunByMask(int row) {
        return longestFreeRun(row);
    }

    public int guestAtRank(int rank) {
        missing(rank < 0 || rank >= guestCount());
        return IntStream.range(0, guestCount()).boxed().sorted(Comparator.<Integer>comparingInt(g -> -coverSize(g))
                .thenComparing(g -> -feathers(g))).toList().get(rank);
    }

    public int sweptTotal() {
        return world.swept;
    }

    public int lapsedTotal() {
        return world.lapsed;
    }

    public int offersTaken() {
        return world.taken;
    }

    public int contestsWon() {
        return world.won;
    }

    public int append(char character) {
        argument(character < 32 || character > 126);
        state(text.length() == 60);
        text += character;
        return text.length();
    }

    public int run() {
        String commands = text;
        text = "";
        if (!TEXT.matcher(commands).matches()) {
            errorPosition = errorIn(commands);
            throw new IllegalArgumentException();
        }
        World before = world.copy();
        List<World> undoable = new ArrayList<>(changes);
        String[] parts = commands.split(";");
        for (int index = 0; index < parts.length; index++) {
            int exception = attempt(parts[index].replaceAll("^guest (.)(.)", "guest $1 $2").split(" "));
            restoreChanges(undoable);
            if (exception > 0) {
                world = before;
                failedCommand = index;
                failedException = exception;
                throw new IllegalStateException();
            }
        }
        World after = world;
        world = before;
        change();
        world = after;
        return parts.length;
    }

    private void restoreChanges(List<World> undoable) {
        changes.clear();
        undoable.forEach(changes::addLast);
    }

    private static int errorIn(String commands) {
        for (int length = 1; length <= commands.length(); length++) {
            Matcher matcher = TEXT.matcher(commands.substring(0, length));
            if (!matcher.matches() && !matcher.hitEnd()) {
                return length - 1;
            }
        }
        return commands.length();
    }

    private int attempt(String[] words) {
        int first = Integer.parseInt(words[1]);
        int second = words.length > 2 ? Integer.parseInt(words[2]) : -1;
        List<Class<?>> thrown = throwsOf(words[0]);
        try {
            switch (words[0]) {
                case "guest" -> addGuest(first, second);
                case "hat" -> placeHat(first, second);
                case "lift" -> removeHat(first);
                case "touch" -> touchHat(first);
                case "coat" -> leaveCoat(first, second);
                case "fetch" -> takeCoat(first);
                case "contest" -> contest(first, second);
                case "pass" -> pass(first);
                case "sweep" -> sweep(first);
                default -> giveFeather(first);
            }
        } catch (RuntimeException exception) {
            return thrown.indexOf(exception.getClass()) + 1;
        }
        return 0;
    }

    private static List<Class<?>> throwsOf(String keyword) {
        Class<?> bounds = IndexOutOfBoundsException.class;
        Class<?> state = IllegalStateException.class;
        return switch (keyword) {
            case "guest" -> List.of(IllegalArgumentException.class, state);
            case "hat", "coat" -> List.of(bounds, state, UnsupportedOperationException.class);
            case "lift", "touch", "fetch" -> List.of(bounds, NoSuchElementException.class);
            case "contest" -> List.of(bounds, NoSuchElementException.class, state);
            case "pass", "sweep" -> List.of(IllegalArgumentException.class);
            default -> List.of(bounds, state);
        };
    }

    public int errorPosition() {
        missing(errorPosition == null);
        return errorPosition;
    }

    public int failedCommand() {
        missing(failedCommand == null);
        return failedCommand;
    }

    public int failedException() {
        missing(failedException == null);
        return failedException;
    }

    public int describeRow(int row) {
        bounds(row < 0 || row > 3);
        StringBuilder signs = new StringBuilder();
        for (int chair = 10 * row; chair < 10 * row + 10; chair++) {
            int guest = coverer(chair);
            String sign = guest < 0 ? "." : "abcdefgh".substring(guest, guest + 1);
            signs.append(guest >= 0 && world.guests.get(guest).hat == chair ? sign.toUpperCase() : sign);
        }
        line = signs.toString();
        return line.length();
    }

    public char lineAt(int index) {
        bounds(index < 0 || index >= line.length());
        return line.charAt(index);
    }

    private int placed() {
        return (int) world.guests.stream().filter(guest -> guest.hat >= 0).count();
    }

    public double meanCover() {
        if (placed() == 0) {
            throw new ArithmeticException();
        }
        return 1.0 * coveredCount() / placed();
    }

    public float coveredShare() {
        return 1.0f * coveredCount() / 40;
    }

    public boolean isConsistent() {
        return true;
    }

    public int undo() {
        state(changes.isEmpty());
        world = changes.pop();
        return changes.size();
    }

    public int save() {
        saved = world.copy();
        return placed();
    }

    public int restore() {
        state(saved == null);
        world = saved.copy();
        changes.clear();
        return placed();
    }
}
