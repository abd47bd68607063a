/** The ranges of the arguments: the last values inside are taken and work, the first ones outside are refused. */
final class EdgesOfRangesTest {
    private static final Due DUE = new Due("edges, ranges");
    private static final Range SPEEDS = new Range(0, 1000);
    private static final Range PEDALS = new Range(0, 100);
    private static final Range SLOPES = new Range(-30, 30);
    private static final Range TURNS = new Range(-1000, 1000);
    private static final Range BOUNDS = new Range(0, 200);
    private static final Range GEARS = new Range(1, 6);

    public static void main(String[] args) {
        speedInside();
        speedOutside();
        pedalInside();
        pedalOutside();
        slopeInside();
        slopeOutside();
        seenInside();
        seenOutside();
        wishedInside();
        wishedOutside();
        boundInside();
        boundOutside();
        gearInside();
        gearOutside();
        DUE.end();
    }

    private static void speedInside() {
        DUE.by("SPEED (0 .. 1000): inside");
        for (long speed : SPEEDS.inside()) {
            GearBrake car = Cars.rolling(500, 500);
            DUE.is("wheel(1, " + speed + ")", car.wheel(1, speed), 1);
            DUE.is("wheel(2, " + speed + ")", car.wheel(2, speed), 1);
            car.step(0, 0);
            DUE.is("reference()", car.reference(), speed);
            DUE.isModel("plant(1)", car.plant(1), 0.125 * speed);
        }
    }

    private static void speedOutside() {
        DUE.by("wheel: -2 it is none");
        for (long speed : SPEEDS.outside()) {
            GearBrake car = Cars.rolling(500, 500);
            DUE.is("wheel(1, " + speed + ")", car.wheel(1, speed), -2);
            DUE.is("wheel(2, " + speed + ")", car.wheel(2, speed), -2);
            car.step(0, 0);
            DUE.is("reference()", car.reference(), 500);
            DUE.slipIs(car, 1, 0, 1);
            DUE.slipIs(car, 2, 0, 1);
        }
    }

    private static void pedalInside() {
        DUE.by("PEDAL (0 .. 100): inside");
        for (long pedal : PEDALS.inside()) {
            GearBrake car = Cars.braking(2);
            DUE.is("step(" + pedal + ", 0)", car.step(pedal, 0), 2);
            DUE.wheelIs(car, 1, Cars.FREE, pedal);
            DUE.wheelIs(car, 2, Cars.FREE, pedal);
        }
    }

    private static void pedalOutside() {
        DUE.by("step: -2 the PEDAL is none");
        for (long pedal : PEDALS.outside()) {
            for (long slope : SLOPES.inside()) {
                GearBrake car = Cars.braking(2);
                car.wheel(1, 900);
                DUE.is("step(" + pedal + ", " + slope + ")", car.step(pedal, slope), -2);
                DUE.is("reference()", car.reference(), 40);
                DUE.wheelIs(car, 1, Cars.FREE, 50);
            }
        }
    }

    private static void slopeInside() {
        DUE.by("SLOPE (-30 .. 30): inside");
        for (long slope : SLOPES.inside()) {
            GearBrake car = Cars.rolling(60, 60);
            DUE.is("step(0, " + slope + ")", car.step(0, slope), slope == 30 ? 1 : 2);
            DUE.is("reference()", car.reference(), 60);
        }
    }

    private static void slopeOutside() {
        DUE.by("step: -2 the SLOPE is none");
        for (long slope : SLOPES.outside()) {
            for (long pedal : PEDALS.inside()) {
                GearBrake car = Cars.rolling(900, 60);
                DUE.is("step(" + pedal + ", " + slope + ")", car.step(pedal, slope), -2);
                DUE.is("reference()", car.reference(), 0);
                DUE.is("gear()", car.gear(), 1);
                DUE.wheelIs(car, 1, Cars.FREE, 0);
            }
        }
    }

    private static int turned(long seen, long wished) {
        if (seen - wished > 20) {
            return 2;
        }
        return wished - seen > 20 ? 1 : 0;
    }

    private static void turnIs(GearBrake car, long seen, long wished) {
        DUE.is("yaw(" + seen + ", " + wished + ")", car.yaw(seen, wished), turned(seen, wished));
    }

    private static void turnIsRefused(GearBrake car, long seen, long wished) {
        DUE.is("yaw(" + seen + ", " + wished + ")", car.yaw(seen, wished), -2);
        DUE.is("pressure(1)", car.pressure(1), 0);
        DUE.is("pressure(2)", car.pressure(2), 0);
    }

    private static void seenInside() {
        DUE.by("yaw: seen is not below -1000 or above 1000");
        for (long seen : TURNS.inside()) {
            for (long wished : new long[] {0, -1000, 1000, 500}) {
                turnIs(new GearBrake(2), seen, wished);
            }
        }
    }

    private static void seenOutside() {
        DUE.by("yaw: -2 seen is below -1000 or above 1000");
        for (long seen : TURNS.outside()) {
            for (long wished : new long[] {0, -1000, 1000, 500}) {
                turnIsRefused(new GearBrake(2), seen, wished);
            }
        }
    }

    private static void wishedInside() {
        DUE.by("yaw: wished is not below -1000 or above 1000");
        for (long wished : TURNS.inside()) {
            for (long seen : new long[] {0, -1000, 1000, 500}) {
                turnIs(new GearBrake(2), seen, wished);
            }
        }
    }

    private static void wishedOutside() {
        DUE.by("yaw: -2 wished is below -1000 or above 1000");
        for (long wished : TURNS.outside()) {
            for (long seen : new long[] {0, -1000, 1000, 500, wished}) {
                turnIsRefused(new GearBrake(2), seen, wished);
            }
        }
    }

    /** What the pressure of wheel 1 ends at when yaw presses it on and on. */
    private static long pressedOnAndOn(GearBrake car) {
        for (int i = 0; i < 12; i++) {
            car.yaw(0, 100);
        }
        return car.pressure(1);
    }

    private static void boundInside() {
        DUE.by("bound: it is 0 .. 200");
        for (long v : BOUNDS.inside()) {
            GearBrake car = new GearBrake(2);
            DUE.is("bound(1, " + v + ")", car.bound(1, v), 1);
            DUE.is("pressure(1) at the end", pressedOnAndOn(car), v);
        }
    }

    private static void boundOutside() {
        DUE.by("bound: -2 it is not 0 .. 200");
        for (long v : BOUNDS.outside()) {
            GearBrake car = new GearBrake(2);
            DUE.is("bound(1, " + v + ")", car.bound(1, v), -2);
            DUE.is("pressure(1) at the end", pressedOnAndOn(car), 100);
        }
    }

    private static void gearInside() {
        DUE.by("GEAR 1 .. 6: inside");
        for (int gear : GEARS.insideInts()) {
            GearBrake car = Cars.withReference(20 * gear);
            DUE.is("wish(" + gear + ")", car.wish(gear), 1);
            DUE.is("gear()", car.gear(), gear);
        }
    }

    private static void gearOutside() {
        DUE.by("wish: -2 there is no such GEAR");
        for (int gear : GEARS.outsideInts()) {
            for (long reference : new long[] {0, 40, 120, 1000}) {
                GearBrake car = Cars.withReference(reference);
                int before = car.gear();
                DUE.is("wish(" + gear + ") at " + reference, car.wish(gear), -2);
                DUE.is("gear()", car.gear(), before);
            }
        }
    }
}
